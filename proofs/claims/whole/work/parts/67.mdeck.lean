/-! the model's cards, rows and hands -/
def afill (i : Nat) (A B : Nat → Int32) (j : Nat) : Int32 := if j < i then A j else B j
theorem afill_s {i : Nat} {A B : Nat → Int32} {v : Int32} (hv : v = A i) : z1 (afill i A B) i v = afill (i + 1) A B := by
  funext j
  unfold z1 afill
  by_cases c : j = i
  · rw [if_pos c, if_pos (by omega), hv, c]
  · rw [if_neg c]
    by_cases c2 : j < i
    · rw [if_pos c2, if_pos (by omega)]
    · rw [if_neg c2, if_neg (by omega)]
theorem afill_0 {A B : Nat → Int32} : afill 0 A B = B := by
  funext j
  unfold afill
  rw [if_neg (by omega)]
theorem zaI_f0 {h : Zh} {r : Nat} {A : Nat → Int32} : zaI h r (afill 0 A (zI h r)) = h := by rw [afill_0, zaI_self]
theorem afill_lt {i j : Nat} {A B : Nat → Int32} (h : j < i) : afill i A B j = A j := if_pos h
theorem afill_ge {i j : Nat} {A B : Nat → Int32} (h : ¬ j < i) : afill i A B j = B j := if_neg h
theorem zfst_mask {w : Nat → Nat} {x a : Nat} : (zfst (fun j => decide (w j = x)) a < a) ↔ (fmask w a).testBit x = true := by
  rw [fmask_bit]
  constructor
  · intro c
    exact ⟨_, c, of_decide_eq_true (zfst_at c)⟩
  · rintro ⟨i, h1, h2⟩
    refine Classical.byContradiction fun c => ?_
    have hz := zfst_le (fun j => decide (w j = x)) a
    have := zfst_before (P := fun j => decide (w j = x)) (n := a) (i := i) (by omega)
    exact absurd h2 (of_decide_eq_false this)
theorem hc_vld {t : Tk} (tok : Tok t) {x : Nat} (hx : x < tH t) : vld (tn t) (tk t) (!tst t) (hc t x) := by
  obtain ⟨bn4, bn12, bu1, bu4, bnu, bk2, bk5, bkn, bp1, bp2, bpk, bH, bsp, bs1, bs4, bT1, bT16, bR1, bR2, bH1, bff, bff1⟩ := tok.b
  exact hcd_vld bn12 (by omega) bk5 bkn bH hx
theorem hc_lt {t : Tk} (tok : Tok t) {x i : Nat} (hx : x < tH t) (hi : i < tk t) : hc t x i < 12 := by
  obtain ⟨bn4, bn12, bu1, bu4, bnu, bk2, bk5, bkn, bp1, bp2, bpk, bH, bsp, bs1, bs4, bT1, bT16, bR1, bR2, bH1, bff, bff1⟩ := tok.b
  have := (hc_vld tok hx).1 i hi
  omega
theorem fX12_cardOf_eq {t : Tk} {x i : Nat} {h : Zh} (s : St h) (c : Cd h t) (tok : Tok t) (hx : x < tH t) (hi : i < tk t) : fX12_cardOf 76 (iI x) (iI i) h = some (iI (hc t x i), h) := by
  obtain ⟨bn4, bn12, bu1, bu4, bnu, bk2, bk5, bkn, bp1, bp2, bpk, bH, bsp, bs1, bs4, bT1, bT16, bR1, bR2, bH1, bff, bff1⟩ := tok.b
  unfold fX12_cardOf
  have e1 : ((5 : Int) * (x : Int) + (i : Int)) = ((5 * x + i : Nat) : Int) := by omega
  simp (maxSteps := 1000000) (disch := (first | assumption | exact ne_b rfl | omega)) only [↓reduceIte, ↓zlet_eq, ↓bdR_sI, ↓bdR_sJ, ↓bdR_aI, zc2_some, Option.bind_some, ↓si_m1, ↓si_m2, ↓si_m3, iI_lit, iI_add, iI_sub, iI_mul, leT, leF, ltT, ltF, eqT, eqF, zinT, clI, Int.toNat_natCast, tN1, tNa, tN0, tNm, if_pos, if_neg, zI_sI, zI_sJ, zI_sR, zJ_sI, zJ_sJ, zJ_sR, zR_sI, zR_sJ, zR_sR, zK_sI, zK_sJ, zK_sR, zL_sI, zL_sJ, zL_sR, zI_aI, zJ_aI, zR_aI, zK_aI, zL_aI, z2_at, z2_a, z2_k, z1_self, z1_ne, true_and, and_true, bIt, bIf, Bool.false_eq_true, Bool.true_eq_false, eq_self, not_true_eq_false, not_false_eq_true, sK76, sK77, sK78, sK79, sK80, sK81, sK82, sK83, sK84, sK85, sK86, sK87, sK88, sK89, sK90, sK91, sK92, sK93, sK94, sK95, sK96, sK97, sK98, sK99, sK100, sL77, sL78, sL79, sL80, sL81, sL82, sL83, sL84, sL85, sL86, sL87, sL88, sL89, sL90, sL91, sL92, sL93, sL94, sL95, sL96, sL97, sL98, sL99, sL100, sR76_5, sR76_16, sR76_18, sR76_19, sR76_20, sR76_21, sR76_23, sR76_25, sR76_26, sR76_27, sR76_28, sR76_29, sR76_30, sR76_31, sR76_32, sR76_33, sR76_34, sR76_37, sR76_38, sR76_39, sR76_40, sR76_41, sR76_42, ↓sB76_5, ↓sB76_16, ↓sB76_18, ↓sB76_19, ↓sB76_20, ↓sB76_21, ↓sB76_23, ↓sB76_25, ↓sB76_26, ↓sB76_27, ↓sB76_28, ↓sB76_29, ↓sB76_30, ↓sB76_31, ↓sB76_32, ↓sB76_33, ↓sB76_34, ↓sB76_37, ↓sB76_38, ↓sB76_39, ↓sB76_40, ↓sB76_41, ↓sB76_42, e1, c.2 x hx i hi]
noncomputable def hasC (t : Tk) (x c : Nat) : Bool := (fmask (hc t x) (tk t)).testBit c
theorem fX12_has_eq {tr : Nat} {t : Tk} {x c : Nat} {h : Zh} (s : St h) (r3 : zR h 76 3 = some tr) (q : Tr h tr t) (cd : Cd h t) (tok : Tok t) (hx : x < tH t) (hc2 : c < 2147483648) : fX12_has 76 (iI x) (iI c) h = some (iI (bI (hasC t x c)), h) := by
  obtain ⟨bn4, bn12, bu1, bu4, bnu, bk2, bk5, bkn, bp1, bp2, bpk, bH, bsp, bs1, bs4, bT1, bT16, bR1, bR2, bH1, bff, bff1⟩ := tok.b
  unfold fX12_has
  simp (maxSteps := 1000000) (disch := (first | assumption | exact ne_b rfl | omega)) only [↓reduceIte, ↓zlet_eq, ↓bdR_sI, ↓bdR_sJ, ↓bdR_aI, zc2_some, Option.bind_some, ↓si_m1, ↓si_m2, ↓si_m3, iI_lit, iI_add, iI_sub, iI_mul, leT, leF, ltT, ltF, eqT, eqF, zinT, clI, Int.toNat_natCast, tN1, tNa, tN0, tNm, if_pos, if_neg, zI_sI, zI_sJ, zI_sR, zJ_sI, zJ_sJ, zJ_sR, zR_sI, zR_sJ, zR_sR, zK_sI, zK_sJ, zK_sR, zL_sI, zL_sJ, zL_sR, zI_aI, zJ_aI, zR_aI, zK_aI, zL_aI, z2_at, z2_a, z2_k, z1_self, z1_ne, true_and, and_true, bIt, bIf, Bool.false_eq_true, Bool.true_eq_false, eq_self, not_true_eq_false, not_false_eq_true]
  refine (lp_sb (st := fun j => ((iI (j : Int), h) : Int32 × Zh)) (fun j => decide (hc t x j = c)) 0 1 (fun j => ((iI (j : Int), h) : Int32 × Zh)) ((iI (tk t), h) : Int32 × Zh) (tk t) rfl (by omega) ?_ ?_ ?_).trans ?_
  · intro j hj hP
    show bX12_has_2 h 76 (iI x) (iI c) (iI j) h = _
    unfold bX12_has_2
    have hP2 : ¬ (hc t x j = c) := of_decide_eq_false hP
    have hw2 := hc_lt tok hx hj
    simp (maxSteps := 1000000) (disch := (first | assumption | exact ne_b rfl | omega)) only [↓reduceIte, ↓zlet_eq, ↓bdR_sI, ↓bdR_sJ, ↓bdR_aI, zc2_some, Option.bind_some, ↓si_m1, ↓si_m2, ↓si_m3, iI_lit, iI_add, iI_sub, iI_mul, leT, leF, ltT, ltF, eqT, eqF, zinT, clI, Int.toNat_natCast, tN1, tNa, tN0, tNm, if_pos, if_neg, zI_sI, zI_sJ, zI_sR, zJ_sI, zJ_sJ, zJ_sR, zR_sI, zR_sJ, zR_sR, zK_sI, zK_sJ, zK_sR, zL_sI, zL_sJ, zL_sR, zI_aI, zJ_aI, zR_aI, zK_aI, zL_aI, z2_at, z2_a, z2_k, z1_self, z1_ne, true_and, and_true, bIt, bIf, Bool.false_eq_true, Bool.true_eq_false, eq_self, not_true_eq_false, not_false_eq_true, sK76, sK77, sK78, sK79, sK80, sK81, sK82, sK83, sK84, sK85, sK86, sK87, sK88, sK89, sK90, sK91, sK92, sK93, sK94, sK95, sK96, sK97, sK98, sK99, sK100, sL77, sL78, sL79, sL80, sL81, sL82, sL83, sL84, sL85, sL86, sL87, sL88, sL89, sL90, sL91, sL92, sL93, sL94, sL95, sL96, sL97, sL98, sL99, sL100, sR76_5, sR76_16, sR76_18, sR76_19, sR76_20, sR76_21, sR76_23, sR76_25, sR76_26, sR76_27, sR76_28, sR76_29, sR76_30, sR76_31, sR76_32, sR76_33, sR76_34, sR76_37, sR76_38, sR76_39, sR76_40, sR76_41, sR76_42, ↓sB76_5, ↓sB76_16, ↓sB76_18, ↓sB76_19, ↓sB76_20, ↓sB76_21, ↓sB76_23, ↓sB76_25, ↓sB76_26, ↓sB76_27, ↓sB76_28, ↓sB76_29, ↓sB76_30, ↓sB76_31, ↓sB76_32, ↓sB76_33, ↓sB76_34, ↓sB76_37, ↓sB76_38, ↓sB76_39, ↓sB76_40, ↓sB76_41, ↓sB76_42, ↓bd_of r3, q.fK, q.f0, q.f1, q.f2, q.f3, q.f4, q.f7, q.f8, q.f9, ↓zc_of (fX12_cardOf_eq s cd tok hx hj)]
    rfl
  · intro j hj hP
    show bX12_has_2 h 76 (iI x) (iI c) (iI j) h = _
    unfold bX12_has_2
    have hP2 : hc t x j = c := of_decide_eq_true hP
    have hw2 := hc_lt tok hx hj
    simp (maxSteps := 1000000) (disch := (first | assumption | exact ne_b rfl | omega)) only [↓reduceIte, ↓zlet_eq, ↓bdR_sI, ↓bdR_sJ, ↓bdR_aI, zc2_some, Option.bind_some, ↓si_m1, ↓si_m2, ↓si_m3, iI_lit, iI_add, iI_sub, iI_mul, leT, leF, ltT, ltF, eqT, eqF, zinT, clI, Int.toNat_natCast, tN1, tNa, tN0, tNm, if_pos, if_neg, zI_sI, zI_sJ, zI_sR, zJ_sI, zJ_sJ, zJ_sR, zR_sI, zR_sJ, zR_sR, zK_sI, zK_sJ, zK_sR, zL_sI, zL_sJ, zL_sR, zI_aI, zJ_aI, zR_aI, zK_aI, zL_aI, z2_at, z2_a, z2_k, z1_self, z1_ne, true_and, and_true, bIt, bIf, Bool.false_eq_true, Bool.true_eq_false, eq_self, not_true_eq_false, not_false_eq_true, sK76, sK77, sK78, sK79, sK80, sK81, sK82, sK83, sK84, sK85, sK86, sK87, sK88, sK89, sK90, sK91, sK92, sK93, sK94, sK95, sK96, sK97, sK98, sK99, sK100, sL77, sL78, sL79, sL80, sL81, sL82, sL83, sL84, sL85, sL86, sL87, sL88, sL89, sL90, sL91, sL92, sL93, sL94, sL95, sL96, sL97, sL98, sL99, sL100, sR76_5, sR76_16, sR76_18, sR76_19, sR76_20, sR76_21, sR76_23, sR76_25, sR76_26, sR76_27, sR76_28, sR76_29, sR76_30, sR76_31, sR76_32, sR76_33, sR76_34, sR76_37, sR76_38, sR76_39, sR76_40, sR76_41, sR76_42, ↓sB76_5, ↓sB76_16, ↓sB76_18, ↓sB76_19, ↓sB76_20, ↓sB76_21, ↓sB76_23, ↓sB76_25, ↓sB76_26, ↓sB76_27, ↓sB76_28, ↓sB76_29, ↓sB76_30, ↓sB76_31, ↓sB76_32, ↓sB76_33, ↓sB76_34, ↓sB76_37, ↓sB76_38, ↓sB76_39, ↓sB76_40, ↓sB76_41, ↓sB76_42, ↓bd_of r3, q.fK, q.f0, q.f1, q.f2, q.f3, q.f4, q.f7, q.f8, q.f9, ↓zc_of (fX12_cardOf_eq s cd tok hx hj)]
  · show bX12_has_2 h 76 (iI x) (iI c) (iI (tk t)) h = _
    unfold bX12_has_2
    simp (maxSteps := 1000000) (disch := (first | assumption | exact ne_b rfl | omega)) only [↓reduceIte, ↓zlet_eq, ↓bdR_sI, ↓bdR_sJ, ↓bdR_aI, zc2_some, Option.bind_some, ↓si_m1, ↓si_m2, ↓si_m3, iI_lit, iI_add, iI_sub, iI_mul, leT, leF, ltT, ltF, eqT, eqF, zinT, clI, Int.toNat_natCast, tN1, tNa, tN0, tNm, if_pos, if_neg, zI_sI, zI_sJ, zI_sR, zJ_sI, zJ_sJ, zJ_sR, zR_sI, zR_sJ, zR_sR, zK_sI, zK_sJ, zK_sR, zL_sI, zL_sJ, zL_sR, zI_aI, zJ_aI, zR_aI, zK_aI, zL_aI, z2_at, z2_a, z2_k, z1_self, z1_ne, true_and, and_true, bIt, bIf, Bool.false_eq_true, Bool.true_eq_false, eq_self, not_true_eq_false, not_false_eq_true, sK76, sK77, sK78, sK79, sK80, sK81, sK82, sK83, sK84, sK85, sK86, sK87, sK88, sK89, sK90, sK91, sK92, sK93, sK94, sK95, sK96, sK97, sK98, sK99, sK100, sL77, sL78, sL79, sL80, sL81, sL82, sL83, sL84, sL85, sL86, sL87, sL88, sL89, sL90, sL91, sL92, sL93, sL94, sL95, sL96, sL97, sL98, sL99, sL100, sR76_5, sR76_16, sR76_18, sR76_19, sR76_20, sR76_21, sR76_23, sR76_25, sR76_26, sR76_27, sR76_28, sR76_29, sR76_30, sR76_31, sR76_32, sR76_33, sR76_34, sR76_37, sR76_38, sR76_39, sR76_40, sR76_41, sR76_42, ↓sB76_5, ↓sB76_16, ↓sB76_18, ↓sB76_19, ↓sB76_20, ↓sB76_21, ↓sB76_23, ↓sB76_25, ↓sB76_26, ↓sB76_27, ↓sB76_28, ↓sB76_29, ↓sB76_30, ↓sB76_31, ↓sB76_32, ↓sB76_33, ↓sB76_34, ↓sB76_37, ↓sB76_38, ↓sB76_39, ↓sB76_40, ↓sB76_41, ↓sB76_42, ↓bd_of r3, q.fK, q.f0, q.f1, q.f2, q.f3, q.f4, q.f7, q.f8, q.f9]
  · unfold hasC
    by_cases c1 : zfst (fun j => decide (hc t x j = c)) (tk t) < tk t
    · rw [if_pos c1, zfst_mask.mp c1]
      rfl
    · have e : (fmask (hc t x) (tk t)).testBit c = false := by
        cases q : (fmask (hc t x) (tk t)).testBit c
        · rfl
        · exact absurd (zfst_mask.mpr q) c1
      rw [if_neg c1, e]
      rfl
/-! the number of a hand that is told -/
def alb (m : Nat → Bool) : Nat → Bool
  | 0 => true
  | i + 1 => alb m i && m i
theorem alb_t {m : Nat → Bool} : ∀ a, alb m a = true ↔ ∀ i, i < a → m i = true
  | 0 => by simp [alb]
  | a + 1 => by
    rw [alb, Bool.and_eq_true, alb_t a]
    constructor
    · rintro ⟨h1, h2⟩ i hi
      by_cases e : i = a
      · rw [e]; exact h2
      · exact h1 i (by omega)
    · intro h
      exact ⟨fun i hi => h i (by omega), h a (by omega)⟩
theorem bsum_sub {A B : Nat} (h : ∀ y, A.testBit y = true → B.testBit y = true) : ∀ c, bsum A c ≤ bsum B c
  | 0 => Nat.le_refl _
  | c + 1 => by
    have := bsum_sub h c
    rw [bsum, bsum]
    cases e : A.testBit c
    · simp; omega
    · rw [h c e]; simp; omega
theorem bsum_eqb {A B : Nat} (h : ∀ y, A.testBit y = true → B.testBit y = true) : ∀ c, bsum A c = bsum B c → ∀ y, y < c → A.testBit y = B.testBit y
  | 0, _, y, hy => by omega
  | c + 1, e, y, hy => by
    have h1 := bsum_sub h c
    rw [bsum, bsum] at e
    cases ea : A.testBit c
    · cases eb : B.testBit c
      · rw [ea, eb] at e
        by_cases e2 : y = c
        · rw [e2, ea, eb]
        · exact bsum_eqb h c (by simpa using e) y (by omega)
      · rw [ea, eb] at e
        simp at e
        omega
    · have eb := h c ea
      rw [ea, eb] at e
      by_cases e2 : y = c
      · rw [e2, ea, eb]
      · exact bsum_eqb h c (by simpa using e) y (by omega)
def trg (t : Tk) (w : Nat → Nat) (i : Nat) : Nat := if tst t then w i else srt w (tk t) i
def hix (t : Tk) (w : Nat → Nat) : Nat := (rnk (tn t) (tk t) (!tst t) (trg t w)).toNat
theorem trg_vld {t : Tk} {w : Nat → Nat} (hw : ∀ i, i < tk t → w i < tn t) (hd : dst w (tk t)) : vld (tn t) (tk t) (!tst t) (trg t w) := by
  cases e : tst t
  · refine ⟨fun i hi => ?_, fun j hj i hi => ?_⟩
    · unfold trg; rw [e, if_neg (by decide)]
      exact srt_lt hd hw i hi
    · have := (srt_ok (tk t) hd).1 i j hi hj
      simpa [trg, e] using this
  · refine ⟨fun i hi => ?_, fun j hj i hi => ?_⟩
    · unfold trg; rw [e, if_pos rfl]
      exact hw i hi
    · have := hd i j hi hj
      simpa [trg, e] using this
theorem hix_ok {t : Tk} (tok : Tok t) {w : Nat → Nat} (hw : ∀ i, i < tk t → w i < tn t) (hd : dst w (tk t)) : hix t w < tH t ∧ rnk (tn t) (tk t) (!tst t) (trg t w) = hix t w ∧ ∀ i, i < tk t → hc t (hix t w) i = trg t w i := by
  obtain ⟨bn4, bn12, bu1, bu4, bnu, bk2, bk5, bkn, bp1, bp2, bpk, bH, bsp, bs1, bs4, bT1, bT16, bR1, bR2, bH1, bff, bff1⟩ := tok.b
  obtain ⟨h, h1, h2, h3⟩ := rnk_ok bn12 (by omega) bk5 bkn bH (trg_vld hw hd)
  have : hix t w = h := by unfold hix; rw [h2]; rfl
  rw [this]
  exact ⟨h1, h2, h3⟩
theorem hix_un {t : Tk} (tok : Tok t) {w : Nat → Nat} {x : Nat} (hx : x < tH t) (h : ∀ i, i < tk t → hc t x i = trg t w i) : x = hix t w := by
  obtain ⟨bn4, bn12, bu1, bu4, bnu, bk2, bk5, bkn, bp1, bp2, bpk, bH, bsp, bs1, bs4, bT1, bT16, bR1, bR2, bH1, bff, bff1⟩ := tok.b
  have := hcd_rnk (n := tn t) (k := tk t) (rs := !tst t) bn12 (by omega) bk5 bkn bH hx
  rw [show hcd (tn t) (tk t) (!tst t) x = hc t x from rfl, rnk_congr h] at this
  unfold hix
  rw [this]
  rfl
noncomputable def mtc (t : Tk) (w : Nat → Nat) (x i : Nat) : Bool := if tst t then decide (hc t x i = w i) else hasC t x (w i)
theorem mtc_ok {t : Tk} (tok : Tok t) {w : Nat → Nat} (hw : ∀ i, i < tk t → w i < tn t) (hd : dst w (tk t)) {x : Nat} (hx : x < tH t) : alb (mtc t w x) (tk t) = true ↔ x = hix t w := by
  obtain ⟨bn4, bn12, bu1, bu4, bnu, bk2, bk5, bkn, bp1, bp2, bpk, bH, bsp, bs1, bs4, bT1, bT16, bR1, bR2, bH1, bff, bff1⟩ := tok.b
  rw [alb_t]
  constructor
  · intro h
    refine hix_un tok hx (fun i hi => ?_)
    unfold trg
    cases e : tst t
    · rw [if_neg (by decide)]
      have hv := hc_vld tok hx
      have hr : ris (hc t x) (tk t) := fun a b h1 h2 => by
        have := hv.2 b h2 a h1
        rw [e] at this
        simpa using this
      obtain ⟨s1, s2⟩ := srt_ok (tk t) hd
      refine ris_uniq hr s1 ?_ i hi
      rw [s2]
      have hsub : ∀ y, (fmask w (tk t)).testBit y = true → (fmask (hc t x) (tk t)).testBit y = true := by
        intro y hy
        obtain ⟨a, h1, h2⟩ := (fmask_bit _ _ _).mp hy
        have := h a h1
        unfold mtc at this
        rw [e, if_neg (by decide), h2] at this
        exact this
      have e1 := bsum_fmask (tn t) (tk t) hd
      have e2 := bsum_fmask (tn t) (tk t) hr.dst
      rw [cntl_all _ hw] at e1
      rw [cntl_all _ hv.1] at e2
      have hb := bsum_eqb hsub (tn t) (by rw [e1, e2])
      refine Nat.eq_of_testBit_eq fun y => ?_
      by_cases c : y < tn t
      · exact (hb y c).symm
      · have l1 : fmask w (tk t) < 2 ^ y := Nat.lt_of_lt_of_le (fmask_lt (N := tn t) _ hw) (Nat.pow_le_pow_right (by decide) (by omega))
        have l2 : fmask (hc t x) (tk t) < 2 ^ y := Nat.lt_of_lt_of_le (fmask_lt (N := tn t) _ hv.1) (Nat.pow_le_pow_right (by decide) (by omega))
        rw [Nat.testBit_lt_two_pow l1, Nat.testBit_lt_two_pow l2]
    · rw [if_pos rfl]
      have := h i hi
      unfold mtc at this
      rw [e, if_pos rfl] at this
      exact of_decide_eq_true this
  · intro h i hi
    have h3 := (hix_ok tok hw hd).2.2
    rw [← h] at h3
    unfold mtc
    cases e : tst t
    · rw [if_neg (by decide)]
      unfold hasC
      have s2 := (srt_ok (tk t) hd).2
      have : fmask (hc t x) (tk t) = fmask w (tk t) := by
        rw [← s2]
        refine fmask_congr _ (fun j hj => ?_)
        rw [h3 j hj]
        unfold trg
        rw [e, if_neg (by decide)]
      rw [this]
      exact (fmask_bit _ _ _).mpr ⟨i, hi, rfl⟩
    · rw [if_pos rfl, h3 i hi]
      unfold trg
      rw [e, if_pos rfl]
      exact decide_eq_true rfl
theorem handNumber_in {tr r1 fr L : Nat} {t : Tk} {w : Nat → Nat} {x : Nat} {h : Zh} (s : St h) (r3 : zR h 76 3 = some tr) (q : Tr h tr t) (cd : Cd h t) (tok : Tok t) (hx : x < tH t) (k1 : zK h r1 = 100) (k2 : zL h r1 = L) (hL : L < 2147483648) (hfr : fr + tk t ≤ L) (hw : ∀ i, i < tk t → zI h r1 (fr + i) = iI (w i) ∧ w i < tn t) : lp (fun q : Int32 × Int32 × Zh => bX12_handNumber_16 h 76 r1 (iI fr) (iI x) q.1 q.2.1 q.2.2) zB (iI 1, iI 0, h) = some (1, (iI (bI (alb (mtc t w x) (tk t))), iI (tk t), h)) := by
  obtain ⟨bn4, bn12, bu1, bu4, bnu, bk2, bk5, bkn, bp1, bp2, bpk, bH, bsp, bs1, bs4, bT1, bT16, bR1, bR2, bH1, bff, bff1⟩ := tok.b
  refine lp_for0 (st := fun i => ((iI (bI (alb (mtc t w x) i)), iI (i : Int), h) : Int32 × Int32 × Zh)) (e := 0) (tk t) rfl (by omega) ?_ ?_
  · intro i hi
    show bX12_handNumber_16 h 76 r1 (iI fr) (iI x) (iI (bI (alb (mtc t w x) i))) (iI i) h = _
    unfold bX12_handNumber_16
    have hw2 := (hw i hi).2
    have hw1 := (hw i hi).1
    have hcl := hc_lt tok hx hi
    have e1 : ((fr : Int) + (i : Int)) = ((fr + i : Nat) : Int) := by omega
    rw [alb]
    cases ea : alb (mtc t w x) i
    · simp (maxSteps := 1000000) (disch := (first | assumption | exact ne_b rfl | omega)) only [↓reduceIte, ↓zlet_eq, ↓bdR_sI, ↓bdR_sJ, ↓bdR_aI, zc2_some, Option.bind_some, ↓si_m1, ↓si_m2, ↓si_m3, iI_lit, iI_add, iI_sub, iI_mul, leT, leF, ltT, ltF, eqT, eqF, zinT, clI, Int.toNat_natCast, tN1, tNa, tN0, tNm, if_pos, if_neg, zI_sI, zI_sJ, zI_sR, zJ_sI, zJ_sJ, zJ_sR, zR_sI, zR_sJ, zR_sR, zK_sI, zK_sJ, zK_sR, zL_sI, zL_sJ, zL_sR, zI_aI, zJ_aI, zR_aI, zK_aI, zL_aI, z2_at, z2_a, z2_k, z1_self, z1_ne, true_and, and_true, bIt, bIf, Bool.false_eq_true, Bool.true_eq_false, eq_self, not_true_eq_false, not_false_eq_true, sK76, sK77, sK78, sK79, sK80, sK81, sK82, sK83, sK84, sK85, sK86, sK87, sK88, sK89, sK90, sK91, sK92, sK93, sK94, sK95, sK96, sK97, sK98, sK99, sK100, sL77, sL78, sL79, sL80, sL81, sL82, sL83, sL84, sL85, sL86, sL87, sL88, sL89, sL90, sL91, sL92, sL93, sL94, sL95, sL96, sL97, sL98, sL99, sL100, sR76_5, sR76_16, sR76_18, sR76_19, sR76_20, sR76_21, sR76_23, sR76_25, sR76_26, sR76_27, sR76_28, sR76_29, sR76_30, sR76_31, sR76_32, sR76_33, sR76_34, sR76_37, sR76_38, sR76_39, sR76_40, sR76_41, sR76_42, ↓sB76_5, ↓sB76_16, ↓sB76_18, ↓sB76_19, ↓sB76_20, ↓sB76_21, ↓sB76_23, ↓sB76_25, ↓sB76_26, ↓sB76_27, ↓sB76_28, ↓sB76_29, ↓sB76_30, ↓sB76_31, ↓sB76_32, ↓sB76_33, ↓sB76_34, ↓sB76_37, ↓sB76_38, ↓sB76_39, ↓sB76_40, ↓sB76_41, ↓sB76_42, ↓bd_of r3, q.fK, q.f0, q.f1, q.f2, q.f3, q.f4, q.f7, q.f8, q.f9, bI0]
      rfl
    · cases e : tst t
      · have em : mtc t w x i = hasC t x (w i) := by unfold mtc; rw [e, if_neg (by decide)]
        simp (maxSteps := 1000000) (disch := (first | assumption | exact ne_b rfl | omega)) only [↓reduceIte, ↓zlet_eq, ↓bdR_sI, ↓bdR_sJ, ↓bdR_aI, zc2_some, Option.bind_some, ↓si_m1, ↓si_m2, ↓si_m3, iI_lit, iI_add, iI_sub, iI_mul, leT, leF, ltT, ltF, eqT, eqF, zinT, clI, Int.toNat_natCast, tN1, tNa, tN0, tNm, if_pos, if_neg, zI_sI, zI_sJ, zI_sR, zJ_sI, zJ_sJ, zJ_sR, zR_sI, zR_sJ, zR_sR, zK_sI, zK_sJ, zK_sR, zL_sI, zL_sJ, zL_sR, zI_aI, zJ_aI, zR_aI, zK_aI, zL_aI, z2_at, z2_a, z2_k, z1_self, z1_ne, true_and, and_true, bIt, bIf, Bool.false_eq_true, Bool.true_eq_false, eq_self, not_true_eq_false, not_false_eq_true, sK76, sK77, sK78, sK79, sK80, sK81, sK82, sK83, sK84, sK85, sK86, sK87, sK88, sK89, sK90, sK91, sK92, sK93, sK94, sK95, sK96, sK97, sK98, sK99, sK100, sL77, sL78, sL79, sL80, sL81, sL82, sL83, sL84, sL85, sL86, sL87, sL88, sL89, sL90, sL91, sL92, sL93, sL94, sL95, sL96, sL97, sL98, sL99, sL100, sR76_5, sR76_16, sR76_18, sR76_19, sR76_20, sR76_21, sR76_23, sR76_25, sR76_26, sR76_27, sR76_28, sR76_29, sR76_30, sR76_31, sR76_32, sR76_33, sR76_34, sR76_37, sR76_38, sR76_39, sR76_40, sR76_41, sR76_42, ↓sB76_5, ↓sB76_16, ↓sB76_18, ↓sB76_19, ↓sB76_20, ↓sB76_21, ↓sB76_23, ↓sB76_25, ↓sB76_26, ↓sB76_27, ↓sB76_28, ↓sB76_29, ↓sB76_30, ↓sB76_31, ↓sB76_32, ↓sB76_33, ↓sB76_34, ↓sB76_37, ↓sB76_38, ↓sB76_39, ↓sB76_40, ↓sB76_41, ↓sB76_42, ↓bd_of r3, q.fK, q.f0, q.f1, q.f2, q.f3, q.f4, q.f7, q.f8, q.f9, bI0, e1, e, k1, k2, hw1, ↓zc_of (fX12_has_eq s r3 q cd tok hx (show w i < 2147483648 by omega))]
        rw [em]
        cases hasC t x (w i) <;> rfl
      · have em : mtc t w x i = decide (hc t x i = w i) := by unfold mtc; rw [e, if_pos rfl]
        by_cases c : hc t x i = w i
        · simp (maxSteps := 1000000) (disch := (first | assumption | exact ne_b rfl | omega)) only [↓reduceIte, ↓zlet_eq, ↓bdR_sI, ↓bdR_sJ, ↓bdR_aI, zc2_some, Option.bind_some, ↓si_m1, ↓si_m2, ↓si_m3, iI_lit, iI_add, iI_sub, iI_mul, leT, leF, ltT, ltF, eqT, eqF, zinT, clI, Int.toNat_natCast, tN1, tNa, tN0, tNm, if_pos, if_neg, zI_sI, zI_sJ, zI_sR, zJ_sI, zJ_sJ, zJ_sR, zR_sI, zR_sJ, zR_sR, zK_sI, zK_sJ, zK_sR, zL_sI, zL_sJ, zL_sR, zI_aI, zJ_aI, zR_aI, zK_aI, zL_aI, z2_at, z2_a, z2_k, z1_self, z1_ne, true_and, and_true, bIt, bIf, Bool.false_eq_true, Bool.true_eq_false, eq_self, not_true_eq_false, not_false_eq_true, sK76, sK77, sK78, sK79, sK80, sK81, sK82, sK83, sK84, sK85, sK86, sK87, sK88, sK89, sK90, sK91, sK92, sK93, sK94, sK95, sK96, sK97, sK98, sK99, sK100, sL77, sL78, sL79, sL80, sL81, sL82, sL83, sL84, sL85, sL86, sL87, sL88, sL89, sL90, sL91, sL92, sL93, sL94, sL95, sL96, sL97, sL98, sL99, sL100, sR76_5, sR76_16, sR76_18, sR76_19, sR76_20, sR76_21, sR76_23, sR76_25, sR76_26, sR76_27, sR76_28, sR76_29, sR76_30, sR76_31, sR76_32, sR76_33, sR76_34, sR76_37, sR76_38, sR76_39, sR76_40, sR76_41, sR76_42, ↓sB76_5, ↓sB76_16, ↓sB76_18, ↓sB76_19, ↓sB76_20, ↓sB76_21, ↓sB76_23, ↓sB76_25, ↓sB76_26, ↓sB76_27, ↓sB76_28, ↓sB76_29, ↓sB76_30, ↓sB76_31, ↓sB76_32, ↓sB76_33, ↓sB76_34, ↓sB76_37, ↓sB76_38, ↓sB76_39, ↓sB76_40, ↓sB76_41, ↓sB76_42, ↓bd_of r3, q.fK, q.f0, q.f1, q.f2, q.f3, q.f4, q.f7, q.f8, q.f9, bI0, e1, e, k1, k2, hw1, ↓zc_of (fX12_cardOf_eq s cd tok hx hi)]
          rw [em, decide_eq_true c]
          rfl
        · simp (maxSteps := 1000000) (disch := (first | assumption | exact ne_b rfl | omega)) only [↓reduceIte, ↓zlet_eq, ↓bdR_sI, ↓bdR_sJ, ↓bdR_aI, zc2_some, Option.bind_some, ↓si_m1, ↓si_m2, ↓si_m3, iI_lit, iI_add, iI_sub, iI_mul, leT, leF, ltT, ltF, eqT, eqF, zinT, clI, Int.toNat_natCast, tN1, tNa, tN0, tNm, if_pos, if_neg, zI_sI, zI_sJ, zI_sR, zJ_sI, zJ_sJ, zJ_sR, zR_sI, zR_sJ, zR_sR, zK_sI, zK_sJ, zK_sR, zL_sI, zL_sJ, zL_sR, zI_aI, zJ_aI, zR_aI, zK_aI, zL_aI, z2_at, z2_a, z2_k, z1_self, z1_ne, true_and, and_true, bIt, bIf, Bool.false_eq_true, Bool.true_eq_false, eq_self, not_true_eq_false, not_false_eq_true, sK76, sK77, sK78, sK79, sK80, sK81, sK82, sK83, sK84, sK85, sK86, sK87, sK88, sK89, sK90, sK91, sK92, sK93, sK94, sK95, sK96, sK97, sK98, sK99, sK100, sL77, sL78, sL79, sL80, sL81, sL82, sL83, sL84, sL85, sL86, sL87, sL88, sL89, sL90, sL91, sL92, sL93, sL94, sL95, sL96, sL97, sL98, sL99, sL100, sR76_5, sR76_16, sR76_18, sR76_19, sR76_20, sR76_21, sR76_23, sR76_25, sR76_26, sR76_27, sR76_28, sR76_29, sR76_30, sR76_31, sR76_32, sR76_33, sR76_34, sR76_37, sR76_38, sR76_39, sR76_40, sR76_41, sR76_42, ↓sB76_5, ↓sB76_16, ↓sB76_18, ↓sB76_19, ↓sB76_20, ↓sB76_21, ↓sB76_23, ↓sB76_25, ↓sB76_26, ↓sB76_27, ↓sB76_28, ↓sB76_29, ↓sB76_30, ↓sB76_31, ↓sB76_32, ↓sB76_33, ↓sB76_34, ↓sB76_37, ↓sB76_38, ↓sB76_39, ↓sB76_40, ↓sB76_41, ↓sB76_42, ↓bd_of r3, q.fK, q.f0, q.f1, q.f2, q.f3, q.f4, q.f7, q.f8, q.f9, bI0, e1, e, k1, k2, hw1, ↓zc_of (fX12_cardOf_eq s cd tok hx hi)]
          rw [em, decide_eq_false c]
          rfl
  · show bX12_handNumber_16 h 76 r1 (iI fr) (iI x) _ (iI (tk t)) h = _
    unfold bX12_handNumber_16
    simp (maxSteps := 1000000) (disch := (first | assumption | exact ne_b rfl | omega)) only [↓reduceIte, ↓zlet_eq, ↓bdR_sI, ↓bdR_sJ, ↓bdR_aI, zc2_some, Option.bind_some, ↓si_m1, ↓si_m2, ↓si_m3, iI_lit, iI_add, iI_sub, iI_mul, leT, leF, ltT, ltF, eqT, eqF, zinT, clI, Int.toNat_natCast, tN1, tNa, tN0, tNm, if_pos, if_neg, zI_sI, zI_sJ, zI_sR, zJ_sI, zJ_sJ, zJ_sR, zR_sI, zR_sJ, zR_sR, zK_sI, zK_sJ, zK_sR, zL_sI, zL_sJ, zL_sR, zI_aI, zJ_aI, zR_aI, zK_aI, zL_aI, z2_at, z2_a, z2_k, z1_self, z1_ne, true_and, and_true, bIt, bIf, Bool.false_eq_true, Bool.true_eq_false, eq_self, not_true_eq_false, not_false_eq_true, sK76, sK77, sK78, sK79, sK80, sK81, sK82, sK83, sK84, sK85, sK86, sK87, sK88, sK89, sK90, sK91, sK92, sK93, sK94, sK95, sK96, sK97, sK98, sK99, sK100, sL77, sL78, sL79, sL80, sL81, sL82, sL83, sL84, sL85, sL86, sL87, sL88, sL89, sL90, sL91, sL92, sL93, sL94, sL95, sL96, sL97, sL98, sL99, sL100, sR76_5, sR76_16, sR76_18, sR76_19, sR76_20, sR76_21, sR76_23, sR76_25, sR76_26, sR76_27, sR76_28, sR76_29, sR76_30, sR76_31, sR76_32, sR76_33, sR76_34, sR76_37, sR76_38, sR76_39, sR76_40, sR76_41, sR76_42, ↓sB76_5, ↓sB76_16, ↓sB76_18, ↓sB76_19, ↓sB76_20, ↓sB76_21, ↓sB76_23, ↓sB76_25, ↓sB76_26, ↓sB76_27, ↓sB76_28, ↓sB76_29, ↓sB76_30, ↓sB76_31, ↓sB76_32, ↓sB76_33, ↓sB76_34, ↓sB76_37, ↓sB76_38, ↓sB76_39, ↓sB76_40, ↓sB76_41, ↓sB76_42, ↓bd_of r3, q.fK, q.f0, q.f1, q.f2, q.f3, q.f4, q.f7, q.f8, q.f9]
theorem fX12_handNumber_eq {tr r1 fr L : Nat} {t : Tk} {w : Nat → Nat} {h : Zh} (s : St h) (r3 : zR h 76 3 = some tr) (q : Tr h tr t) (cd : Cd h t) (tok : Tok t) (k1 : zK h r1 = 100) (k2 : zL h r1 = L) (hL : L < 2147483648) (hfr : fr + tk t ≤ L) (hw : ∀ i, i < tk t → zI h r1 (fr + i) = iI (w i) ∧ w i < tn t) (hd : dst w (tk t)) : fX12_handNumber 76 r1 (iI fr) h = some (iI (hix t w), h) := by
  obtain ⟨bn4, bn12, bu1, bu4, bnu, bk2, bk5, bkn, bp1, bp2, bpk, bH, bsp, bs1, bs4, bT1, bT16, bR1, bR2, bH1, bff, bff1⟩ := tok.b
  have hw2 := fun i hi => (hw i hi).2
  have hok := hix_ok tok hw2 hd
  unfold fX12_handNumber
  simp (maxSteps := 1000000) (disch := (first | assumption | exact ne_b rfl | omega)) only [↓reduceIte, ↓zlet_eq, ↓bdR_sI, ↓bdR_sJ, ↓bdR_aI, zc2_some, Option.bind_some, ↓si_m1, ↓si_m2, ↓si_m3, iI_lit, iI_add, iI_sub, iI_mul, leT, leF, ltT, ltF, eqT, eqF, zinT, clI, Int.toNat_natCast, tN1, tNa, tN0, tNm, if_pos, if_neg, zI_sI, zI_sJ, zI_sR, zJ_sI, zJ_sJ, zJ_sR, zR_sI, zR_sJ, zR_sR, zK_sI, zK_sJ, zK_sR, zL_sI, zL_sJ, zL_sR, zI_aI, zJ_aI, zR_aI, zK_aI, zL_aI, z2_at, z2_a, z2_k, z1_self, z1_ne, true_and, and_true, bIt, bIf, Bool.false_eq_true, Bool.true_eq_false, eq_self, not_true_eq_false, not_false_eq_true]
  refine (lp_sb (st := fun j => ((iI (j : Int), h) : Int32 × Zh)) (fun x => alb (mtc t w x) (tk t)) 0 1 (fun j => ((iI (j : Int), h) : Int32 × Zh)) ((iI (tH t), h) : Int32 × Zh) (tH t) rfl (by omega) ?_ ?_ ?_).trans ?_
  · intro x hx hP
    show bX12_handNumber_2 h 76 r1 (iI fr) (iI x) h = _
    unfold bX12_handNumber_2
    simp (maxSteps := 1000000) (disch := (first | assumption | exact ne_b rfl | omega)) only [↓reduceIte, ↓zlet_eq, ↓bdR_sI, ↓bdR_sJ, ↓bdR_aI, zc2_some, Option.bind_some, ↓si_m1, ↓si_m2, ↓si_m3, iI_lit, iI_add, iI_sub, iI_mul, leT, leF, ltT, ltF, eqT, eqF, zinT, clI, Int.toNat_natCast, tN1, tNa, tN0, tNm, if_pos, if_neg, zI_sI, zI_sJ, zI_sR, zJ_sI, zJ_sJ, zJ_sR, zR_sI, zR_sJ, zR_sR, zK_sI, zK_sJ, zK_sR, zL_sI, zL_sJ, zL_sR, zI_aI, zJ_aI, zR_aI, zK_aI, zL_aI, z2_at, z2_a, z2_k, z1_self, z1_ne, true_and, and_true, bIt, bIf, Bool.false_eq_true, Bool.true_eq_false, eq_self, not_true_eq_false, not_false_eq_true, sK76, sK77, sK78, sK79, sK80, sK81, sK82, sK83, sK84, sK85, sK86, sK87, sK88, sK89, sK90, sK91, sK92, sK93, sK94, sK95, sK96, sK97, sK98, sK99, sK100, sL77, sL78, sL79, sL80, sL81, sL82, sL83, sL84, sL85, sL86, sL87, sL88, sL89, sL90, sL91, sL92, sL93, sL94, sL95, sL96, sL97, sL98, sL99, sL100, sR76_5, sR76_16, sR76_18, sR76_19, sR76_20, sR76_21, sR76_23, sR76_25, sR76_26, sR76_27, sR76_28, sR76_29, sR76_30, sR76_31, sR76_32, sR76_33, sR76_34, sR76_37, sR76_38, sR76_39, sR76_40, sR76_41, sR76_42, ↓sB76_5, ↓sB76_16, ↓sB76_18, ↓sB76_19, ↓sB76_20, ↓sB76_21, ↓sB76_23, ↓sB76_25, ↓sB76_26, ↓sB76_27, ↓sB76_28, ↓sB76_29, ↓sB76_30, ↓sB76_31, ↓sB76_32, ↓sB76_33, ↓sB76_34, ↓sB76_37, ↓sB76_38, ↓sB76_39, ↓sB76_40, ↓sB76_41, ↓sB76_42, cd.1]
    refine (lp_bd (handNumber_in s r3 q cd tok hx k1 k2 hL hfr hw)).trans ?_
    show kX12_handNumber_16 h 76 r1 (iI fr) (iI x) 1 _ _ h = _
    unfold kX12_handNumber_16
    dsimp only
    rw [hP]
    simp (maxSteps := 1000000) (disch := (first | assumption | exact ne_b rfl | omega)) only [↓reduceIte, ↓zlet_eq, ↓bdR_sI, ↓bdR_sJ, ↓bdR_aI, zc2_some, Option.bind_some, ↓si_m1, ↓si_m2, ↓si_m3, iI_lit, iI_add, iI_sub, iI_mul, leT, leF, ltT, ltF, eqT, eqF, zinT, clI, Int.toNat_natCast, tN1, tNa, tN0, tNm, if_pos, if_neg, zI_sI, zI_sJ, zI_sR, zJ_sI, zJ_sJ, zJ_sR, zR_sI, zR_sJ, zR_sR, zK_sI, zK_sJ, zK_sR, zL_sI, zL_sJ, zL_sR, zI_aI, zJ_aI, zR_aI, zK_aI, zL_aI, z2_at, z2_a, z2_k, z1_self, z1_ne, true_and, and_true, bIt, bIf, Bool.false_eq_true, Bool.true_eq_false, eq_self, not_true_eq_false, not_false_eq_true]
    rfl
  · intro x hx hP
    show bX12_handNumber_2 h 76 r1 (iI fr) (iI x) h = _
    unfold bX12_handNumber_2
    simp (maxSteps := 1000000) (disch := (first | assumption | exact ne_b rfl | omega)) only [↓reduceIte, ↓zlet_eq, ↓bdR_sI, ↓bdR_sJ, ↓bdR_aI, zc2_some, Option.bind_some, ↓si_m1, ↓si_m2, ↓si_m3, iI_lit, iI_add, iI_sub, iI_mul, leT, leF, ltT, ltF, eqT, eqF, zinT, clI, Int.toNat_natCast, tN1, tNa, tN0, tNm, if_pos, if_neg, zI_sI, zI_sJ, zI_sR, zJ_sI, zJ_sJ, zJ_sR, zR_sI, zR_sJ, zR_sR, zK_sI, zK_sJ, zK_sR, zL_sI, zL_sJ, zL_sR, zI_aI, zJ_aI, zR_aI, zK_aI, zL_aI, z2_at, z2_a, z2_k, z1_self, z1_ne, true_and, and_true, bIt, bIf, Bool.false_eq_true, Bool.true_eq_false, eq_self, not_true_eq_false, not_false_eq_true, sK76, sK77, sK78, sK79, sK80, sK81, sK82, sK83, sK84, sK85, sK86, sK87, sK88, sK89, sK90, sK91, sK92, sK93, sK94, sK95, sK96, sK97, sK98, sK99, sK100, sL77, sL78, sL79, sL80, sL81, sL82, sL83, sL84, sL85, sL86, sL87, sL88, sL89, sL90, sL91, sL92, sL93, sL94, sL95, sL96, sL97, sL98, sL99, sL100, sR76_5, sR76_16, sR76_18, sR76_19, sR76_20, sR76_21, sR76_23, sR76_25, sR76_26, sR76_27, sR76_28, sR76_29, sR76_30, sR76_31, sR76_32, sR76_33, sR76_34, sR76_37, sR76_38, sR76_39, sR76_40, sR76_41, sR76_42, ↓sB76_5, ↓sB76_16, ↓sB76_18, ↓sB76_19, ↓sB76_20, ↓sB76_21, ↓sB76_23, ↓sB76_25, ↓sB76_26, ↓sB76_27, ↓sB76_28, ↓sB76_29, ↓sB76_30, ↓sB76_31, ↓sB76_32, ↓sB76_33, ↓sB76_34, ↓sB76_37, ↓sB76_38, ↓sB76_39, ↓sB76_40, ↓sB76_41, ↓sB76_42, cd.1]
    refine (lp_bd (handNumber_in s r3 q cd tok hx k1 k2 hL hfr hw)).trans ?_
    show kX12_handNumber_16 h 76 r1 (iI fr) (iI x) 1 _ _ h = _
    unfold kX12_handNumber_16
    rw [hP]
    rfl
  · show bX12_handNumber_2 h 76 r1 (iI fr) (iI (tH t)) h = _
    unfold bX12_handNumber_2
    simp (maxSteps := 1000000) (disch := (first | assumption | exact ne_b rfl | omega)) only [↓reduceIte, ↓zlet_eq, ↓bdR_sI, ↓bdR_sJ, ↓bdR_aI, zc2_some, Option.bind_some, ↓si_m1, ↓si_m2, ↓si_m3, iI_lit, iI_add, iI_sub, iI_mul, leT, leF, ltT, ltF, eqT, eqF, zinT, clI, Int.toNat_natCast, tN1, tNa, tN0, tNm, if_pos, if_neg, zI_sI, zI_sJ, zI_sR, zJ_sI, zJ_sJ, zJ_sR, zR_sI, zR_sJ, zR_sR, zK_sI, zK_sJ, zK_sR, zL_sI, zL_sJ, zL_sR, zI_aI, zJ_aI, zR_aI, zK_aI, zL_aI, z2_at, z2_a, z2_k, z1_self, z1_ne, true_and, and_true, bIt, bIf, Bool.false_eq_true, Bool.true_eq_false, eq_self, not_true_eq_false, not_false_eq_true, sK76, sK77, sK78, sK79, sK80, sK81, sK82, sK83, sK84, sK85, sK86, sK87, sK88, sK89, sK90, sK91, sK92, sK93, sK94, sK95, sK96, sK97, sK98, sK99, sK100, sL77, sL78, sL79, sL80, sL81, sL82, sL83, sL84, sL85, sL86, sL87, sL88, sL89, sL90, sL91, sL92, sL93, sL94, sL95, sL96, sL97, sL98, sL99, sL100, sR76_5, sR76_16, sR76_18, sR76_19, sR76_20, sR76_21, sR76_23, sR76_25, sR76_26, sR76_27, sR76_28, sR76_29, sR76_30, sR76_31, sR76_32, sR76_33, sR76_34, sR76_37, sR76_38, sR76_39, sR76_40, sR76_41, sR76_42, ↓sB76_5, ↓sB76_16, ↓sB76_18, ↓sB76_19, ↓sB76_20, ↓sB76_21, ↓sB76_23, ↓sB76_25, ↓sB76_26, ↓sB76_27, ↓sB76_28, ↓sB76_29, ↓sB76_30, ↓sB76_31, ↓sB76_32, ↓sB76_33, ↓sB76_34, ↓sB76_37, ↓sB76_38, ↓sB76_39, ↓sB76_40, ↓sB76_41, ↓sB76_42, cd.1]
  · have e : zfst (fun x => alb (mtc t w x) (tk t)) (tH t) = hix t w := by
      refine zfst_eq (by omega) (fun x hx => ?_) (fun _ => (mtc_ok tok hw2 hd hok.1).mpr rfl)
      cases c : alb (mtc t w x) (tk t)
      · rfl
      · have := (mtc_ok tok hw2 hd (show x < tH t by omega)).mp c
        omega
    rw [e, if_pos hok.1]
    rfl
/-! a row's number -/
theorem fX12_rowNumber_eq {tr r1 fr L : Nat} {t : Tk} {w : Nat → Nat} {h : Zh} (s : St h) (r3 : zR h 76 3 = some tr) (q : Tr h tr t) (tok : Tok t) (k1 : zK h r1 = 100) (k2 : zL h r1 = L) (hL : L < 2147483648) (hfr : fr + tsh t ≤ L) (hw : ∀ i, i < tsh t → zI h r1 (fr + i) = iI (w i) ∧ w i < tn t) (hd : dst w (tsh t)) : fX12_rowNumber 76 r1 (iI fr) h = some (iI (rowN (tn t) w (tsh t)), h) := by
  obtain ⟨bn4, bn12, bu1, bu4, bnu, bk2, bk5, bkn, bp1, bp2, bpk, bH, bsp, bs1, bs4, bT1, bT16, bR1, bR2, bH1, bff, bff1⟩ := tok.b
  unfold fX12_rowNumber
  simp (maxSteps := 1000000) (disch := (first | assumption | exact ne_b rfl | omega)) only [↓reduceIte, ↓zlet_eq, ↓bdR_sI, ↓bdR_sJ, ↓bdR_aI, zc2_some, Option.bind_some, ↓si_m1, ↓si_m2, ↓si_m3, iI_lit, iI_add, iI_sub, iI_mul, leT, leF, ltT, ltF, eqT, eqF, zinT, clI, Int.toNat_natCast, tN1, tNa, tN0, tNm, if_pos, if_neg, zI_sI, zI_sJ, zI_sR, zJ_sI, zJ_sJ, zJ_sR, zR_sI, zR_sJ, zR_sR, zK_sI, zK_sJ, zK_sR, zL_sI, zL_sJ, zL_sR, zI_aI, zJ_aI, zR_aI, zK_aI, zL_aI, z2_at, z2_a, z2_k, z1_self, z1_ne, true_and, and_true, bIt, bIf, Bool.false_eq_true, Bool.true_eq_false, eq_self, not_true_eq_false, not_false_eq_true]
  refine (lp_fb (st := fun i => ((iI (rowN (tn t) w i), iI (i : Int), h) : Int32 × Int32 × Zh)) (e := 0) (s' := (iI (rowN (tn t) w (tsh t)), iI (tsh t), h)) (tsh t) rfl (by omega) ?_ ?_).trans rfl
  · intro i hi
    show bX12_rowNumber_5 h 76 r1 (iI fr) (iI (rowN (tn t) w i)) (iI i) h = _
    unfold bX12_rowNumber_5
    have hw1 := (hw i hi).1
    have hw2 := (hw i hi).2
    have e1 : ((fr : Int) + (i : Int)) = ((fr + i : Nat) : Int) := by omega
    simp (maxSteps := 1000000) (disch := (first | assumption | exact ne_b rfl | omega)) only [↓reduceIte, ↓zlet_eq, ↓bdR_sI, ↓bdR_sJ, ↓bdR_aI, zc2_some, Option.bind_some, ↓si_m1, ↓si_m2, ↓si_m3, iI_lit, iI_add, iI_sub, iI_mul, leT, leF, ltT, ltF, eqT, eqF, zinT, clI, Int.toNat_natCast, tN1, tNa, tN0, tNm, if_pos, if_neg, zI_sI, zI_sJ, zI_sR, zJ_sI, zJ_sJ, zJ_sR, zR_sI, zR_sJ, zR_sR, zK_sI, zK_sJ, zK_sR, zL_sI, zL_sJ, zL_sR, zI_aI, zJ_aI, zR_aI, zK_aI, zL_aI, z2_at, z2_a, z2_k, z1_self, z1_ne, true_and, and_true, bIt, bIf, Bool.false_eq_true, Bool.true_eq_false, eq_self, not_true_eq_false, not_false_eq_true, sK76, sK77, sK78, sK79, sK80, sK81, sK82, sK83, sK84, sK85, sK86, sK87, sK88, sK89, sK90, sK91, sK92, sK93, sK94, sK95, sK96, sK97, sK98, sK99, sK100, sL77, sL78, sL79, sL80, sL81, sL82, sL83, sL84, sL85, sL86, sL87, sL88, sL89, sL90, sL91, sL92, sL93, sL94, sL95, sL96, sL97, sL98, sL99, sL100, sR76_5, sR76_16, sR76_18, sR76_19, sR76_20, sR76_21, sR76_23, sR76_25, sR76_26, sR76_27, sR76_28, sR76_29, sR76_30, sR76_31, sR76_32, sR76_33, sR76_34, sR76_37, sR76_38, sR76_39, sR76_40, sR76_41, sR76_42, ↓sB76_5, ↓sB76_16, ↓sB76_18, ↓sB76_19, ↓sB76_20, ↓sB76_21, ↓sB76_23, ↓sB76_25, ↓sB76_26, ↓sB76_27, ↓sB76_28, ↓sB76_29, ↓sB76_30, ↓sB76_31, ↓sB76_32, ↓sB76_33, ↓sB76_34, ↓sB76_37, ↓sB76_38, ↓sB76_39, ↓sB76_40, ↓sB76_41, ↓sB76_42, ↓bd_of r3, q.fK, q.f0, q.f1, q.f2, q.f3, q.f4, q.f7, q.f8, q.f9, k1, k2, e1, hw1]
    have hcl := cntl_le (w := w) (i := i) (hd.le (by omega))
    refine (lp_fb (st := fun j => ((iI ((w i : Int) - cntl w (w i) j), iI (j : Int), h) : Int32 × Int32 × Zh)) (e := 0) (s' := (iI ((w i : Int) - cntl w (w i) i), iI i, h)) i (by simp [cntl]) (by omega) ?_ ?_).trans ?_
    · intro j hj
      show bX12_rowNumber_28 h r1 (iI fr) (iI i) (iI ((w i : Int) - cntl w (w i) j)) (iI j) h = _
      unfold bX12_rowNumber_28
      have hv1 := (hw j (by omega)).1
      have hv2 := (hw j (by omega)).2
      have e2 : ((fr : Int) + (j : Int)) = ((fr + j : Nat) : Int) := by omega
      rw [cntl]
      by_cases c : w j < w i
      · simp (maxSteps := 1000000) (disch := (first | assumption | exact ne_b rfl | omega)) only [↓reduceIte, ↓zlet_eq, ↓bdR_sI, ↓bdR_sJ, ↓bdR_aI, zc2_some, Option.bind_some, ↓si_m1, ↓si_m2, ↓si_m3, iI_lit, iI_add, iI_sub, iI_mul, leT, leF, ltT, ltF, eqT, eqF, zinT, clI, Int.toNat_natCast, tN1, tNa, tN0, tNm, if_pos, if_neg, zI_sI, zI_sJ, zI_sR, zJ_sI, zJ_sJ, zJ_sR, zR_sI, zR_sJ, zR_sR, zK_sI, zK_sJ, zK_sR, zL_sI, zL_sJ, zL_sR, zI_aI, zJ_aI, zR_aI, zK_aI, zL_aI, z2_at, z2_a, z2_k, z1_self, z1_ne, true_and, and_true, bIt, bIf, Bool.false_eq_true, Bool.true_eq_false, eq_self, not_true_eq_false, not_false_eq_true, k2, e1, e2, hw1, hv1]
        rw [show ((w i : Int) - (cntl w (w i) j : Nat) - 1) = (w i : Int) - ((cntl w (w i) j + 1 : Nat) : Int) by omega]
        rfl
      · simp (maxSteps := 1000000) (disch := (first | assumption | exact ne_b rfl | omega)) only [↓reduceIte, ↓zlet_eq, ↓bdR_sI, ↓bdR_sJ, ↓bdR_aI, zc2_some, Option.bind_some, ↓si_m1, ↓si_m2, ↓si_m3, iI_lit, iI_add, iI_sub, iI_mul, leT, leF, ltT, ltF, eqT, eqF, zinT, clI, Int.toNat_natCast, tN1, tNa, tN0, tNm, if_pos, if_neg, zI_sI, zI_sJ, zI_sR, zJ_sI, zJ_sJ, zJ_sR, zR_sI, zR_sJ, zR_sR, zK_sI, zK_sJ, zK_sR, zL_sI, zL_sJ, zL_sR, zI_aI, zJ_aI, zR_aI, zK_aI, zL_aI, z2_at, z2_a, z2_k, z1_self, z1_ne, true_and, and_true, bIt, bIf, Bool.false_eq_true, Bool.true_eq_false, eq_self, not_true_eq_false, not_false_eq_true, k2, e1, e2, hw1, hv1]
        rw [show ((w i : Int) - (cntl w (w i) j : Nat) - 0) = (w i : Int) - ((cntl w (w i) j + 0 : Nat) : Int) by omega]
        rfl
    · show bX12_rowNumber_28 h r1 (iI fr) (iI i) _ (iI i) h = _
      unfold bX12_rowNumber_28
      simp (maxSteps := 1000000) (disch := (first | assumption | exact ne_b rfl | omega)) only [↓reduceIte, ↓zlet_eq, ↓bdR_sI, ↓bdR_sJ, ↓bdR_aI, zc2_some, Option.bind_some, ↓si_m1, ↓si_m2, ↓si_m3, iI_lit, iI_add, iI_sub, iI_mul, leT, leF, ltT, ltF, eqT, eqF, zinT, clI, Int.toNat_natCast, tN1, tNa, tN0, tNm, if_pos, if_neg, zI_sI, zI_sJ, zI_sR, zJ_sI, zJ_sJ, zJ_sR, zR_sI, zR_sJ, zR_sR, zK_sI, zK_sJ, zK_sR, zL_sI, zL_sJ, zL_sR, zI_aI, zJ_aI, zR_aI, zK_aI, zL_aI, z2_at, z2_a, z2_k, z1_self, z1_ne, true_and, and_true, bIt, bIf, Bool.false_eq_true, Bool.true_eq_false, eq_self, not_true_eq_false, not_false_eq_true]
    · show kX12_rowNumber_28 h 76 r1 (iI fr) (iI (rowN (tn t) w i)) (iI i) 1 (iI ((w i : Int) - cntl w (w i) i)) (iI i) h = _
      unfold kX12_rowNumber_28
      simp (maxSteps := 1000000) (disch := (first | assumption | exact ne_b rfl | omega)) only [↓reduceIte, ↓zlet_eq, ↓bdR_sI, ↓bdR_sJ, ↓bdR_aI, zc2_some, Option.bind_some, ↓si_m1, ↓si_m2, ↓si_m3, iI_lit, iI_add, iI_sub, iI_mul, leT, leF, ltT, ltF, eqT, eqF, zinT, clI, Int.toNat_natCast, tN1, tNa, tN0, tNm, if_pos, if_neg, zI_sI, zI_sJ, zI_sR, zJ_sI, zJ_sJ, zJ_sR, zR_sI, zR_sJ, zR_sR, zK_sI, zK_sJ, zK_sR, zL_sI, zL_sJ, zL_sR, zI_aI, zJ_aI, zR_aI, zK_aI, zL_aI, z2_at, z2_a, z2_k, z1_self, z1_ne, true_and, and_true, bIt, bIf, Bool.false_eq_true, Bool.true_eq_false, eq_self, not_true_eq_false, not_false_eq_true, sK76, sK77, sK78, sK79, sK80, sK81, sK82, sK83, sK84, sK85, sK86, sK87, sK88, sK89, sK90, sK91, sK92, sK93, sK94, sK95, sK96, sK97, sK98, sK99, sK100, sL77, sL78, sL79, sL80, sL81, sL82, sL83, sL84, sL85, sL86, sL87, sL88, sL89, sL90, sL91, sL92, sL93, sL94, sL95, sL96, sL97, sL98, sL99, sL100, sR76_5, sR76_16, sR76_18, sR76_19, sR76_20, sR76_21, sR76_23, sR76_25, sR76_26, sR76_27, sR76_28, sR76_29, sR76_30, sR76_31, sR76_32, sR76_33, sR76_34, sR76_37, sR76_38, sR76_39, sR76_40, sR76_41, sR76_42, ↓sB76_5, ↓sB76_16, ↓sB76_18, ↓sB76_19, ↓sB76_20, ↓sB76_21, ↓sB76_23, ↓sB76_25, ↓sB76_26, ↓sB76_27, ↓sB76_28, ↓sB76_29, ↓sB76_30, ↓sB76_31, ↓sB76_32, ↓sB76_33, ↓sB76_34, ↓sB76_37, ↓sB76_38, ↓sB76_39, ↓sB76_40, ↓sB76_41, ↓sB76_42, ↓bd_of r3, q.fK, q.f0, q.f1, q.f2, q.f3, q.f4, q.f7, q.f8, q.f9]
      have hnn : ((tn t : Int) - i) = ((tn t - i : Nat) : Int) := by omega
      have hdd : ((w i : Int) - (cntl w (w i) i : Nat)) = ((dg w i : Nat) : Int) := by unfold dg; omega
      rw [rowN, hnn, hdd, ← Int.natCast_mul, ← Int.natCast_add]
      rfl
  · show bX12_rowNumber_5 h 76 r1 (iI fr) _ (iI (tsh t)) h = _
    unfold bX12_rowNumber_5
    simp (maxSteps := 1000000) (disch := (first | assumption | exact ne_b rfl | omega)) only [↓reduceIte, ↓zlet_eq, ↓bdR_sI, ↓bdR_sJ, ↓bdR_aI, zc2_some, Option.bind_some, ↓si_m1, ↓si_m2, ↓si_m3, iI_lit, iI_add, iI_sub, iI_mul, leT, leF, ltT, ltF, eqT, eqF, zinT, clI, Int.toNat_natCast, tN1, tNa, tN0, tNm, if_pos, if_neg, zI_sI, zI_sJ, zI_sR, zJ_sI, zJ_sJ, zJ_sR, zR_sI, zR_sJ, zR_sR, zK_sI, zK_sJ, zK_sR, zL_sI, zL_sJ, zL_sR, zI_aI, zJ_aI, zR_aI, zK_aI, zL_aI, z2_at, z2_a, z2_k, z1_self, z1_ne, true_and, and_true, bIt, bIf, Bool.false_eq_true, Bool.true_eq_false, eq_self, not_true_eq_false, not_false_eq_true, sK76, sK77, sK78, sK79, sK80, sK81, sK82, sK83, sK84, sK85, sK86, sK87, sK88, sK89, sK90, sK91, sK92, sK93, sK94, sK95, sK96, sK97, sK98, sK99, sK100, sL77, sL78, sL79, sL80, sL81, sL82, sL83, sL84, sL85, sL86, sL87, sL88, sL89, sL90, sL91, sL92, sL93, sL94, sL95, sL96, sL97, sL98, sL99, sL100, sR76_5, sR76_16, sR76_18, sR76_19, sR76_20, sR76_21, sR76_23, sR76_25, sR76_26, sR76_27, sR76_28, sR76_29, sR76_30, sR76_31, sR76_32, sR76_33, sR76_34, sR76_37, sR76_38, sR76_39, sR76_40, sR76_41, sR76_42, ↓sB76_5, ↓sB76_16, ↓sB76_18, ↓sB76_19, ↓sB76_20, ↓sB76_21, ↓sB76_23, ↓sB76_25, ↓sB76_26, ↓sB76_27, ↓sB76_28, ↓sB76_29, ↓sB76_30, ↓sB76_31, ↓sB76_32, ↓sB76_33, ↓sB76_34, ↓sB76_37, ↓sB76_38, ↓sB76_39, ↓sB76_40, ↓sB76_41, ↓sB76_42, ↓bd_of r3, q.fK, q.f0, q.f1, q.f2, q.f3, q.f4, q.f7, q.f8, q.f9]
theorem fX11_tilts_eq {tr : Nat} {t : Tk} {h : Zh} (q : Tr h tr t) (tok : Tok t) : fX11_tilts tr h = some (iI (tT t), h) := by
  obtain ⟨bn4, bn12, bu1, bu4, bnu, bk2, bk5, bkn, bp1, bp2, bpk, bH, bsp, bs1, bs4, bT1, bT16, bR1, bR2, bH1, bff, bff1⟩ := tok.b
  unfold fX11_tilts tT
  simp (maxSteps := 1000000) (disch := (first | assumption | exact ne_b rfl | omega)) only [↓reduceIte, ↓zlet_eq, ↓bdR_sI, ↓bdR_sJ, ↓bdR_aI, zc2_some, Option.bind_some, ↓si_m1, ↓si_m2, ↓si_m3, iI_lit, iI_add, iI_sub, iI_mul, leT, leF, ltT, ltF, eqT, eqF, zinT, clI, Int.toNat_natCast, tN1, tNa, tN0, tNm, if_pos, if_neg, zI_sI, zI_sJ, zI_sR, zJ_sI, zJ_sJ, zJ_sR, zR_sI, zR_sJ, zR_sR, zK_sI, zK_sJ, zK_sR, zL_sI, zL_sJ, zL_sR, zI_aI, zJ_aI, zR_aI, zK_aI, zL_aI, z2_at, z2_a, z2_k, z1_self, z1_ne, true_and, and_true, bIt, bIf, Bool.false_eq_true, Bool.true_eq_false, eq_self, not_true_eq_false, not_false_eq_true, q.fK, q.f0, q.f1, q.f2, q.f3, q.f4, q.f7, q.f8, q.f9, bI0]
  cases tti t
  · rfl
  · rw [if_neg (by decide), if_pos rfl]
    rw [show iI 31 = (31 : Int32) from rfl, show iI 1 = (1 : Int32) from rfl, iI_one (by omega)]
