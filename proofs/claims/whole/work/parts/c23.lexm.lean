/-! the model's reader: bytes and runs -/
def ub (y : Int) : Int := if 0 ≤ y then y else y + 256
theorem ub_k : ∀ k : Nat, k < 256 → iI ((k : Int) - 128) &&& (255 : Int32) = iI (ub ((k : Int) - 128)) := by decide +kernel
theorem ub_eq {y : Int} (h1 : -128 ≤ y) (h2 : y < 128) : iI y &&& (255 : Int32) = iI (ub y) := by
  have := ub_k (y + 128).toNat (by omega)
  rw [show (((y + 128).toNat : Nat) : Int) - 128 = y by omega] at this
  exact this
theorem ub_b {y : Int} (h1 : -128 ≤ y) (h2 : y < 128) : 0 ≤ ub y ∧ ub y < 256 ∧ ((0 ≤ y ∧ ub y = y) ∨ (y < 0 ∧ 128 ≤ ub y)) := by
  unfold ub
  split <;> omega
def TxM (h : Zh) (tx : Nat → Int) (n : Nat) : Prop := n ≤ 900 ∧ zI h 76 7 = iI n ∧ ∀ j, j < n → zI h 77 j = iI (tx j) ∧ -128 ≤ tx j ∧ tx j < 128
theorem TxM.fm {S : List Nat} {h h' : Zh} {tx : Nat → Int} {n : Nat} (q : TxM h tx n) (f : Fm S h h') (h7 : zI h' 76 7 = zI h 76 7) (h1 : 77 ∉ S) : TxM h' tx n := by
  obtain ⟨a, b, d⟩ := q
  exact ⟨a, by rw [h7]; exact b, by rw [f.I h1]; exact d⟩
/-- the byte at a place, -1 behind the text -/
def byt (tx : Nat → Int) (n k : Nat) : Int := if k < n then ub (tx k) else -1
theorem byt_b {h : Zh} {tx : Nat → Int} {n k : Nat} (t : TxM h tx n) : -1 ≤ byt tx n k ∧ byt tx n k < 256 := by
  unfold byt
  by_cases c : k < n
  · rw [if_pos c]
    have := ub_b (t.2.2 k c).2.1 (t.2.2 k c).2.2
    omega
  · rw [if_neg c]; omega
theorem byteAt_m {h : Zh} {tx : Nat → Int} {n k : Nat} (s : St h) (t : TxM h tx n) (hk : k ≤ 900) : fX12_byteAt 76 (iI k) h = some (iI (byt tx n k), h) := by
  obtain ⟨a, b, d⟩ := t
  unfold fX12_byteAt byt
  by_cases c : k < n
  · rw [if_pos c]
    obtain ⟨d1, d2, d3⟩ := d k c
    have e := ub_eq d2 d3
    have e' : iI (tx k) &&& iI 255 = iI (ub (tx k)) := e
    simp (maxSteps := 1000000) (disch := (first | assumption | exact ne_b rfl | omega)) only [↓reduceIte, ↓zlet_eq, ↓bdR_sI, ↓bdR_sJ, ↓bdR_aI, zc2_some, Option.bind_some, ↓si_m1, ↓si_m2, ↓si_m3, iI_lit, iI_add, iI_sub, iI_mul, leT, leF, ltT, ltF, eqT, eqF, zinT, clI, Int.toNat_natCast, Int.reduceToNat, tN1, tNa, tN0, tNm, if_pos, if_neg, zI_sI, zI_sJ, zI_sR, zJ_sI, zJ_sJ, zJ_sR, zR_sI, zR_sJ, zR_sR, zK_sI, zK_sJ, zK_sR, zL_sI, zL_sJ, zL_sR, zI_aI, zJ_aI, zR_aI, zK_aI, zL_aI, z2_at, z2_a, z2_k, z1_self, z1_ne, true_and, and_true, bIt, bIf, Bool.false_eq_true, Bool.true_eq_false, eq_self, not_true_eq_false, not_false_eq_true, sK76, sK77, sK78, sK79, sK80, sK81, sK82, sK83, sK84, sK85, sK86, sK87, sK88, sK89, sK90, sK91, sK92, sK93, sK94, sK95, sK96, sK97, sK98, sK99, sK100, sL77, sL78, sL79, sL80, sL81, sL82, sL83, sL84, sL85, sL86, sL87, sL88, sL89, sL90, sL91, sL92, sL93, sL94, sL95, sL96, sL97, sL98, sL99, sL100, sR76_5, sR76_16, sR76_18, sR76_19, sR76_20, sR76_21, sR76_23, sR76_25, sR76_26, sR76_27, sR76_28, sR76_29, sR76_30, sR76_31, sR76_32, sR76_33, sR76_34, sR76_37, sR76_38, sR76_39, sR76_40, sR76_41, sR76_42, ↓sB76_5, ↓sB76_16, ↓sB76_18, ↓sB76_19, ↓sB76_20, ↓sB76_21, ↓sB76_23, ↓sB76_25, ↓sB76_26, ↓sB76_27, ↓sB76_28, ↓sB76_29, ↓sB76_30, ↓sB76_31, ↓sB76_32, ↓sB76_33, ↓sB76_34, ↓sB76_37, ↓sB76_38, ↓sB76_39, ↓sB76_40, ↓sB76_41, ↓sB76_42, b, d1, e']
  · rw [if_neg c]
    simp (maxSteps := 1000000) (disch := (first | assumption | exact ne_b rfl | omega)) only [↓reduceIte, ↓zlet_eq, ↓bdR_sI, ↓bdR_sJ, ↓bdR_aI, zc2_some, Option.bind_some, ↓si_m1, ↓si_m2, ↓si_m3, iI_lit, iI_add, iI_sub, iI_mul, leT, leF, ltT, ltF, eqT, eqF, zinT, clI, Int.toNat_natCast, Int.reduceToNat, tN1, tNa, tN0, tNm, if_pos, if_neg, zI_sI, zI_sJ, zI_sR, zJ_sI, zJ_sJ, zJ_sR, zR_sI, zR_sJ, zR_sR, zK_sI, zK_sJ, zK_sR, zL_sI, zL_sJ, zL_sR, zI_aI, zJ_aI, zR_aI, zK_aI, zL_aI, z2_at, z2_a, z2_k, z1_self, z1_ne, true_and, and_true, bIt, bIf, Bool.false_eq_true, Bool.true_eq_false, eq_self, not_true_eq_false, not_false_eq_true, sK76, sK77, sK78, sK79, sK80, sK81, sK82, sK83, sK84, sK85, sK86, sK87, sK88, sK89, sK90, sK91, sK92, sK93, sK94, sK95, sK96, sK97, sK98, sK99, sK100, sL77, sL78, sL79, sL80, sL81, sL82, sL83, sL84, sL85, sL86, sL87, sL88, sL89, sL90, sL91, sL92, sL93, sL94, sL95, sL96, sL97, sL98, sL99, sL100, sR76_5, sR76_16, sR76_18, sR76_19, sR76_20, sR76_21, sR76_23, sR76_25, sR76_26, sR76_27, sR76_28, sR76_29, sR76_30, sR76_31, sR76_32, sR76_33, sR76_34, sR76_37, sR76_38, sR76_39, sR76_40, sR76_41, sR76_42, ↓sB76_5, ↓sB76_16, ↓sB76_18, ↓sB76_19, ↓sB76_20, ↓sB76_21, ↓sB76_23, ↓sB76_25, ↓sB76_26, ↓sB76_27, ↓sB76_28, ↓sB76_29, ↓sB76_30, ↓sB76_31, ↓sB76_32, ↓sB76_33, ↓sB76_34, ↓sB76_37, ↓sB76_38, ↓sB76_39, ↓sB76_40, ↓sB76_41, ↓sB76_42, b]
theorem isLetter_m {h : Zh} {c : Int} (hc : -1 ≤ c ∧ c < 256) : fX12_isLetter (iI c) h = some (iI (bI (ltr c)), h) := by
  unfold fX12_isLetter ltr
  by_cases c1 : 97 ≤ c
  · by_cases c2 : c ≤ 122
    · rw [decide_eq_true c1, decide_eq_true c2]
      simp (maxSteps := 1000000) (disch := (first | assumption | exact ne_b rfl | omega)) only [↓reduceIte, ↓zlet_eq, ↓bdR_sI, ↓bdR_sJ, ↓bdR_aI, zc2_some, Option.bind_some, ↓si_m1, ↓si_m2, ↓si_m3, iI_lit, iI_add, iI_sub, iI_mul, leT, leF, ltT, ltF, eqT, eqF, zinT, clI, Int.toNat_natCast, Int.reduceToNat, tN1, tNa, tN0, tNm, if_pos, if_neg, zI_sI, zI_sJ, zI_sR, zJ_sI, zJ_sJ, zJ_sR, zR_sI, zR_sJ, zR_sR, zK_sI, zK_sJ, zK_sR, zL_sI, zL_sJ, zL_sR, zI_aI, zJ_aI, zR_aI, zK_aI, zL_aI, z2_at, z2_a, z2_k, z1_self, z1_ne, true_and, and_true, bIt, bIf, Bool.false_eq_true, Bool.true_eq_false, eq_self, not_true_eq_false, not_false_eq_true]
      all_goals rfl
    · rw [decide_eq_true c1, decide_eq_false c2]
      simp (maxSteps := 1000000) (disch := (first | assumption | exact ne_b rfl | omega)) only [↓reduceIte, ↓zlet_eq, ↓bdR_sI, ↓bdR_sJ, ↓bdR_aI, zc2_some, Option.bind_some, ↓si_m1, ↓si_m2, ↓si_m3, iI_lit, iI_add, iI_sub, iI_mul, leT, leF, ltT, ltF, eqT, eqF, zinT, clI, Int.toNat_natCast, Int.reduceToNat, tN1, tNa, tN0, tNm, if_pos, if_neg, zI_sI, zI_sJ, zI_sR, zJ_sI, zJ_sJ, zJ_sR, zR_sI, zR_sJ, zR_sR, zK_sI, zK_sJ, zK_sR, zL_sI, zL_sJ, zL_sR, zI_aI, zJ_aI, zR_aI, zK_aI, zL_aI, z2_at, z2_a, z2_k, z1_self, z1_ne, true_and, and_true, bIt, bIf, Bool.false_eq_true, Bool.true_eq_false, eq_self, not_true_eq_false, not_false_eq_true]
      all_goals rfl
  · rw [decide_eq_false c1]
    simp (maxSteps := 1000000) (disch := (first | assumption | exact ne_b rfl | omega)) only [↓reduceIte, ↓zlet_eq, ↓bdR_sI, ↓bdR_sJ, ↓bdR_aI, zc2_some, Option.bind_some, ↓si_m1, ↓si_m2, ↓si_m3, iI_lit, iI_add, iI_sub, iI_mul, leT, leF, ltT, ltF, eqT, eqF, zinT, clI, Int.toNat_natCast, Int.reduceToNat, tN1, tNa, tN0, tNm, if_pos, if_neg, zI_sI, zI_sJ, zI_sR, zJ_sI, zJ_sJ, zJ_sR, zR_sI, zR_sJ, zR_sR, zK_sI, zK_sJ, zK_sR, zL_sI, zL_sJ, zL_sR, zI_aI, zJ_aI, zR_aI, zK_aI, zL_aI, z2_at, z2_a, z2_k, z1_self, z1_ne, true_and, and_true, bIt, bIf, Bool.false_eq_true, Bool.true_eq_false, eq_self, not_true_eq_false, not_false_eq_true]
    all_goals rfl
theorem isDigit_m {h : Zh} {c : Int} (hc : -1 ≤ c ∧ c < 256) : fX12_isDigit (iI c) h = some (iI (bI (dgt0 c)), h) := by
  unfold fX12_isDigit dgt0
  by_cases c1 : 48 ≤ c
  · by_cases c2 : c ≤ 57
    · rw [decide_eq_true c1, decide_eq_true c2]
      simp (maxSteps := 1000000) (disch := (first | assumption | exact ne_b rfl | omega)) only [↓reduceIte, ↓zlet_eq, ↓bdR_sI, ↓bdR_sJ, ↓bdR_aI, zc2_some, Option.bind_some, ↓si_m1, ↓si_m2, ↓si_m3, iI_lit, iI_add, iI_sub, iI_mul, leT, leF, ltT, ltF, eqT, eqF, zinT, clI, Int.toNat_natCast, Int.reduceToNat, tN1, tNa, tN0, tNm, if_pos, if_neg, zI_sI, zI_sJ, zI_sR, zJ_sI, zJ_sJ, zJ_sR, zR_sI, zR_sJ, zR_sR, zK_sI, zK_sJ, zK_sR, zL_sI, zL_sJ, zL_sR, zI_aI, zJ_aI, zR_aI, zK_aI, zL_aI, z2_at, z2_a, z2_k, z1_self, z1_ne, true_and, and_true, bIt, bIf, Bool.false_eq_true, Bool.true_eq_false, eq_self, not_true_eq_false, not_false_eq_true]
      all_goals rfl
    · rw [decide_eq_true c1, decide_eq_false c2]
      simp (maxSteps := 1000000) (disch := (first | assumption | exact ne_b rfl | omega)) only [↓reduceIte, ↓zlet_eq, ↓bdR_sI, ↓bdR_sJ, ↓bdR_aI, zc2_some, Option.bind_some, ↓si_m1, ↓si_m2, ↓si_m3, iI_lit, iI_add, iI_sub, iI_mul, leT, leF, ltT, ltF, eqT, eqF, zinT, clI, Int.toNat_natCast, Int.reduceToNat, tN1, tNa, tN0, tNm, if_pos, if_neg, zI_sI, zI_sJ, zI_sR, zJ_sI, zJ_sJ, zJ_sR, zR_sI, zR_sJ, zR_sR, zK_sI, zK_sJ, zK_sR, zL_sI, zL_sJ, zL_sR, zI_aI, zJ_aI, zR_aI, zK_aI, zL_aI, z2_at, z2_a, z2_k, z1_self, z1_ne, true_and, and_true, bIt, bIf, Bool.false_eq_true, Bool.true_eq_false, eq_self, not_true_eq_false, not_false_eq_true]
      all_goals rfl
  · rw [decide_eq_false c1]
    simp (maxSteps := 1000000) (disch := (first | assumption | exact ne_b rfl | omega)) only [↓reduceIte, ↓zlet_eq, ↓bdR_sI, ↓bdR_sJ, ↓bdR_aI, zc2_some, Option.bind_some, ↓si_m1, ↓si_m2, ↓si_m3, iI_lit, iI_add, iI_sub, iI_mul, leT, leF, ltT, ltF, eqT, eqF, zinT, clI, Int.toNat_natCast, Int.reduceToNat, tN1, tNa, tN0, tNm, if_pos, if_neg, zI_sI, zI_sJ, zI_sR, zJ_sI, zJ_sJ, zJ_sR, zR_sI, zR_sJ, zR_sR, zK_sI, zK_sJ, zK_sR, zL_sI, zL_sJ, zL_sR, zI_aI, zJ_aI, zR_aI, zK_aI, zL_aI, z2_at, z2_a, z2_k, z1_self, z1_ne, true_and, and_true, bIt, bIf, Bool.false_eq_true, Bool.true_eq_false, eq_self, not_true_eq_false, not_false_eq_true]
    all_goals rfl
theorem ltr_ub {y : Int} (h1 : -128 ≤ y) (h2 : y < 128) : ltr (ub y) = ltr y := by
  have := ub_b h1 h2
  unfold ltr
  rcases this.2.2 with ⟨a, b⟩ | ⟨a, b⟩
  · rw [b]
  · rw [decide_eq_false (show ¬ ub y ≤ 122 by omega), Bool.and_false, decide_eq_false (show ¬ 97 ≤ y by omega), Bool.false_and]
theorem dgt_ub {y : Int} (h1 : -128 ≤ y) (h2 : y < 128) : dgt0 (ub y) = dgt0 y := by
  have := ub_b h1 h2
  unfold dgt0
  rcases this.2.2 with ⟨a, b⟩ | ⟨a, b⟩
  · rw [b]
  · rw [decide_eq_false (show ¬ ub y ≤ 57 by omega), Bool.and_false, decide_eq_false (show ¬ 48 ≤ y by omega), Bool.false_and]
/-- letters of a word as one number -/
def wen (tx : Nat → Int) (s : Nat) : Nat → Int
  | 0 => 0
  | k + 1 => 32 * wen tx s k + (tx (s + k) - 97 + 1)
theorem go_9 {g h0 : Zh} {tx : Nat → Int} {n p : Nat} (s0 : St h0) (tm : TxM h0 tx n) (hp : p ≤ n) (h8 : zI h0 76 8 = iI p) : ∃ h', lp (fun q : Zh => bX12_goesOn_9 g 76 q) zB h0 = some (1, h') ∧ Fm [76] h0 h' ∧ (∀ j, j ≠ 8 → zI h' 76 j = zI h0 76 j) ∧ zI h' 76 8 = iI (skp tx n p) := by
  obtain ⟨hb1, hb2⟩ := skp_b tx hp
  have hn := tm.1
  have := lp_cnt (body := fun q : Zh => bX12_goesOn_9 g 76 q) (zfst (fun j => decide (tx (p + j) ≠ 32)) (n - p)) (fun k h => Fm [76] h0 h ∧ (∀ j, j ≠ 8 → zI h 76 j = zI h0 76 j) ∧ zI h 76 8 = iI ((p + k : Nat) : Int)) (fun e h => e = 1 ∧ Fm [76] h0 h ∧ (∀ j, j ≠ 8 → zI h 76 j = zI h0 76 j) ∧ zI h 76 8 = iI (skp tx n p)) ?_ ?_ (by unfold skp at hb2; omega) (s := h0) ⟨Fm.rf, fun _ _ => rfl, h8⟩
  · obtain ⟨e, h', l1, l2, l3⟩ := this
    have e0 : e = 0 := by omega
    subst e0
    exact ⟨h', l1, l3⟩
  · intro k h hk ⟨fm, k1, k2⟩
    have s1 := s0.fm fm
    have tm1 := tm.fm fm (k1 7 (by decide)) (by simp)
    have hb := zfst_before (P := fun j => decide (tx (p + j) ≠ 32)) (n := n - p) (i := k) hk
    have c1 : tx (p + k) = 32 := Classical.byContradiction (fun z => by rw [decide_eq_true z] at hb; cases hb)
    have hkn : p + k < n := by unfold skp at hb2; omega
    have e1 := byteAt_m (k := p + k) s1 tm1 (by omega)
    have hby : byt tx n (p + k) = 32 := by unfold byt; rw [if_pos hkn, c1]; rfl
    rw [hby] at e1
    have ee : ((p + k : Nat) : Int) + 1 = ((p + (k + 1) : Nat) : Int) := by omega
    refine Or.inl ⟨zsI h 76 8 (iI ((p + (k + 1) : Nat) : Int)), ?_, fm.tr (Fm_sI _ _ _ (by simp)), fun j j9 => by rw [zI_sI, z2_k _ _ _ j9]; exact k1 j j9, by rw [zI_sI, z2_at]⟩
    show bX12_goesOn_9 g 76 h = _
    unfold bX12_goesOn_9
    simp (maxSteps := 1000000) (disch := (first | assumption | exact ne_b rfl | omega)) only [↓reduceIte, ↓zlet_eq, ↓bdR_sI, ↓bdR_sJ, ↓bdR_aI, zc2_some, Option.bind_some, ↓si_m1, ↓si_m2, ↓si_m3, iI_lit, iI_add, iI_sub, iI_mul, leT, leF, ltT, ltF, eqT, eqF, zinT, clI, Int.toNat_natCast, Int.reduceToNat, tN1, tNa, tN0, tNm, if_pos, if_neg, zI_sI, zI_sJ, zI_sR, zJ_sI, zJ_sJ, zJ_sR, zR_sI, zR_sJ, zR_sR, zK_sI, zK_sJ, zK_sR, zL_sI, zL_sJ, zL_sR, zI_aI, zJ_aI, zR_aI, zK_aI, zL_aI, z2_at, z2_a, z2_k, z1_self, z1_ne, true_and, and_true, bIt, bIf, Bool.false_eq_true, Bool.true_eq_false, eq_self, not_true_eq_false, not_false_eq_true, k2, ↓zc_of e1, ee]
  · intro h ⟨fm, k1, k2⟩
    have s1 := s0.fm fm
    have tm1 := tm.fm fm (k1 7 (by decide)) (by simp)
    have k2' : zI h 76 8 = iI (skp tx n p) := k2
    refine ⟨0, h, ?_, rfl, fm, k1, k2'⟩
    show bX12_goesOn_9 g 76 h = _
    have e1 := byteAt_m (k := skp tx n p) s1 tm1 (by omega)
    have hbb := byt_b (k := skp tx n p) tm1
    have hby : ¬ byt tx n (skp tx n p) = 32 := by
      unfold byt
      by_cases c : skp tx n p < n
      · rw [if_pos c]
        have ha := zfst_at (P := fun j => decide (tx (p + j) ≠ 32)) (n := n - p) (by unfold skp at c; omega)
        have ha' : tx (skp tx n p) ≠ 32 := of_decide_eq_true ha
        have := ub_b (tm.2.2 _ c).2.1 (tm.2.2 _ c).2.2
        omega
      · rw [if_neg c]; omega
    clear k2
    generalize byt tx n (skp tx n p) = w at *
    unfold bX12_goesOn_9
    simp (maxSteps := 1000000) (disch := (first | assumption | exact ne_b rfl | omega)) only [↓reduceIte, ↓zlet_eq, ↓bdR_sI, ↓bdR_sJ, ↓bdR_aI, zc2_some, Option.bind_some, ↓si_m1, ↓si_m2, ↓si_m3, iI_lit, iI_add, iI_sub, iI_mul, leT, leF, ltT, ltF, eqT, eqF, zinT, clI, Int.toNat_natCast, Int.reduceToNat, tN1, tNa, tN0, tNm, if_pos, if_neg, zI_sI, zI_sJ, zI_sR, zJ_sI, zJ_sJ, zJ_sR, zR_sI, zR_sJ, zR_sR, zK_sI, zK_sJ, zK_sR, zL_sI, zL_sJ, zL_sR, zI_aI, zJ_aI, zR_aI, zK_aI, zL_aI, z2_at, z2_a, z2_k, z1_self, z1_ne, true_and, and_true, bIt, bIf, Bool.false_eq_true, Bool.true_eq_false, eq_self, not_true_eq_false, not_false_eq_true, k2', ↓zc_of e1]
