/-! the model: a hand's rows, put in order -/
def FG (h : Zh) (T m : Nat) (s : Nat → Nat) : Prop := zI h 76 22 = iI ((m * T : Nat) : Int) ∧ ∀ g u, g < m → u < T → zI h 82 (g * T + u) = iI ((s g * T + u : Nat) : Int)
theorem puts_mv {T k M : Nat} {B : Nat → Int32} {g h : Zh} (sg : St g) (s : St h) (hT : 1 ≤ T) (hk : T ≤ k) (hkM : k ≤ M) (hM : M + T ≤ 1920) : lp (fun q : Int32 × Zh => bX12_puts_32 g 76 (iI T) (iI k) q.1 q.2) zB (iI 1, zaI h 82 (fun a => if k + T ≤ a ∧ a < M + T then B (a - T) else B a)) = some (1, (iI ((T + 1 : Nat) : Int), zaI h 82 (fun a => if k ≤ a ∧ a < M + T then B (a - T) else B a))) := by
  refine lp_for0 (st := fun e => ((iI ((e + 1 : Nat) : Int), zaI h 82 (fun a => if k + T - e ≤ a ∧ a < M + T then B (a - T) else B a)) : Int32 × Zh)) (e := 0) T rfl (by omega) ?_ ?_
  · intro e he
    show bX12_puts_32 g 76 (iI T) (iI k) (iI ((e + 1 : Nat) : Int)) (zaI h 82 _) = _
    unfold bX12_puts_32
    have e1 : (k : Int) - ((e + 1 : Nat) : Int) = ((k - (e + 1) : Nat) : Int) := by omega
    have e2 : ((k - (e + 1) : Nat) : Int) + (T : Int) = ((k - (e + 1) + T : Nat) : Int) := by omega
    have e3 : ¬ (k + T - e ≤ k - (e + 1) ∧ k - (e + 1) < M + T) := by omega
    simp (maxSteps := 1000000) (disch := (first | assumption | exact ne_b rfl | omega)) only [↓reduceIte, ↓zlet_eq, ↓bdR_sI, ↓bdR_sJ, ↓bdR_aI, zc2_some, Option.bind_some, ↓si_m1, ↓si_m2, ↓si_m3, iI_lit, iI_add, iI_sub, iI_mul, leT, leF, ltT, ltF, eqT, eqF, zinT, clI, Int.toNat_natCast, Int.reduceToNat, tN1, tNa, tN0, tNm, if_pos, if_neg, zI_sI, zI_sJ, zI_sR, zJ_sI, zJ_sJ, zJ_sR, zR_sI, zR_sJ, zR_sR, zK_sI, zK_sJ, zK_sR, zL_sI, zL_sJ, zL_sR, zI_aI, zJ_aI, zR_aI, zK_aI, zL_aI, z2_at, z2_a, z2_k, z1_self, z1_ne, true_and, and_true, bIt, bIf, Bool.false_eq_true, Bool.true_eq_false, eq_self, not_true_eq_false, not_false_eq_true, sK76, sK77, sK78, sK79, sK80, sK81, sK82, sK83, sK84, sK85, sK86, sK87, sK88, sK89, sK90, sK91, sK92, sK93, sK94, sK95, sK96, sK97, sK98, sK99, sK100, sL77, sL78, sL79, sL80, sL81, sL82, sL83, sL84, sL85, sL86, sL87, sL88, sL89, sL90, sL91, sL92, sL93, sL94, sL95, sL96, sL97, sL98, sL99, sL100, sR76_5, sR76_16, sR76_18, sR76_19, sR76_20, sR76_21, sR76_23, sR76_25, sR76_26, sR76_27, sR76_28, sR76_29, sR76_30, sR76_31, sR76_32, sR76_33, sR76_34, sR76_37, sR76_38, sR76_39, sR76_40, sR76_41, sR76_42, ↓sB76_5, ↓sB76_16, ↓sB76_18, ↓sB76_19, ↓sB76_20, ↓sB76_21, ↓sB76_23, ↓sB76_25, ↓sB76_26, ↓sB76_27, ↓sB76_28, ↓sB76_29, ↓sB76_30, ↓sB76_31, ↓sB76_32, ↓sB76_33, ↓sB76_34, ↓sB76_37, ↓sB76_38, ↓sB76_39, ↓sB76_40, ↓sB76_41, ↓sB76_42, e1, e2, e3, zsI_aI]
    rw [show ((e + 1 : Nat) : Int) + 1 = ((e + 1 + 1 : Nat) : Int) by omega]
    congr 4
    funext a
    unfold z1
    dsimp only
    by_cases c : a = k - (e + 1) + T
    · rw [if_pos c, if_pos (by omega), c, show k - (e + 1) + T - T = k - (e + 1) by omega]
    · rw [if_neg c]
      by_cases c2 : k + T - e ≤ a ∧ a < M + T
      · rw [if_pos c2, if_pos (by omega)]
      · rw [if_neg c2, if_neg (by omega)]
  · show bX12_puts_32 g 76 (iI T) (iI k) (iI ((T + 1 : Nat) : Int)) (zaI h 82 _) = _
    unfold bX12_puts_32
    rw [show k + T - T = k by omega]
    simp (maxSteps := 1000000) (disch := (first | assumption | exact ne_b rfl | omega)) only [↓reduceIte, ↓zlet_eq, ↓bdR_sI, ↓bdR_sJ, ↓bdR_aI, zc2_some, Option.bind_some, ↓si_m1, ↓si_m2, ↓si_m3, iI_lit, iI_add, iI_sub, iI_mul, leT, leF, ltT, ltF, eqT, eqF, zinT, clI, Int.toNat_natCast, Int.reduceToNat, tN1, tNa, tN0, tNm, if_pos, if_neg, zI_sI, zI_sJ, zI_sR, zJ_sI, zJ_sJ, zJ_sR, zR_sI, zR_sJ, zR_sR, zK_sI, zK_sJ, zK_sR, zL_sI, zL_sJ, zL_sR, zI_aI, zJ_aI, zR_aI, zK_aI, zL_aI, z2_at, z2_a, z2_k, z1_self, z1_ne, true_and, and_true, bIt, bIf, Bool.false_eq_true, Bool.true_eq_false, eq_self, not_true_eq_false, not_false_eq_true]
theorem fX12_puts_eq {tr v m : Nat} {t : Tk} {s : Nat → Nat} {h : Zh} (st : St h) (htr : 101 ≤ tr) (r3 : zR h 76 3 = some tr) (q : Tr h tr t) (tok : Tok t) (hm : m < 120) (hv : v < 11880) (hs : ∀ g, g < m → s g < 11880 ∧ s g ≠ v) (fg : FG h (tT t) m s) : ∃ h', fX12_puts 76 (iI ((v * tT t : Nat) : Int)) h = some h' ∧ Fm [76, 82] h h' ∧ (∀ j, j ≠ 22 → zI h' 76 j = zI h 76 j) ∧ FG h' (tT t) (m + 1) (insA s (insP s v m) v) := by
  obtain ⟨bn4, bn12, bu1, bu4, bnu, bk2, bk5, bkn, bp1, bp2, bpk, bH, bsp, bs1, bs4, bT1, bT16, bR1, bR2, bH1, bff, bff1⟩ := tok.b
  have hti := fX11_tilts_eq q tok
  obtain ⟨p1, p2, p3⟩ := insP_ok (s := s) (c := v) m
  generalize hT : tT t = T at *
  generalize hP : insP s v m = p at *
  have hmT : m * T ≤ 119 * 16 := Nat.mul_le_mul (by omega) bT16
  have hmT2 : m * T + T ≤ 1920 := by
    have : (m + 1) * T ≤ 120 * 16 := Nat.mul_le_mul (by omega) bT16
    rw [Nat.add_mul, Nat.one_mul] at this
    exact this
  have hvT : v * T ≤ 11880 * 16 := Nat.mul_le_mul (by omega) bT16
  have hpm : p * T ≤ m * T := Nat.mul_le_mul_right _ p1
  -- the groups that make room
  have hmv : lp (fun z : Int32 × Zh => bX12_puts_13 h 76 (iI ((v * T : Nat) : Int)) (iI T) z.1 z.2) zB (iI ((m * T : Nat) : Int), h) = some (1, (iI ((p * T : Nat) : Int), zaI h 82 (fun a => if p * T + T ≤ a ∧ a < m * T + T then zI h 82 (a - T) else zI h 82 a))) := by
    refine lp_for0 (st := fun e => ((iI (((m - e) * T : Nat) : Int), zaI h 82 (fun a => if (m - e) * T + T ≤ a ∧ a < m * T + T then zI h 82 (a - T) else zI h 82 a)) : Int32 × Zh)) (e := 0) (m - p) ?_ (by omega) ?_ ?_
    · have : (fun a => if (m - 0) * T + T ≤ a ∧ a < m * T + T then zI h 82 (a - T) else zI h 82 a) = zI h 82 := by
        funext a
        rw [if_neg (by rw [Nat.sub_zero]; omega)]
      rw [Nat.sub_zero] at this
      simp only [Nat.sub_zero, this, zaI_self]
    · intro e he
      show bX12_puts_13 h 76 (iI ((v * T : Nat) : Int)) (iI T) (iI (((m - e) * T : Nat) : Int)) (zaI h 82 _) = _
      obtain ⟨g, hg⟩ : ∃ g, m - e = g + 1 := ⟨m - e - 1, by omega⟩
      have hg2 : m - (e + 1) = g := by omega
      rw [hg, hg2, Nat.add_mul, Nat.one_mul]
      have hgm : (g + 1) * T ≤ m * T := Nat.mul_le_mul_right _ (by omega)
      rw [Nat.add_mul, Nat.one_mul] at hgm
      have q1 := p2 g (by omega) (by omega)
      have q2 := (hs g (by omega)).1
      have hsT : s g * T ≤ 11880 * 16 := Nat.mul_le_mul (by omega) bT16
      have hlast := fg.2 g (T - 1) (by omega) (by omega)
      have hcmp : v * T < s g * T + (T - 1) := by
        have : (v + 1) * T ≤ s g * T := Nat.mul_le_mul_right _ q1
        rw [Nat.add_mul, Nat.one_mul] at this
        omega
      have hin := puts_mv (T := T) (k := g * T + T) (M := m * T) (B := zI h 82) st st (by omega) (by omega) hgm hmT2
      unfold bX12_puts_13
      generalize g * T = G at *
      generalize s g * T = SG at *
      generalize v * T = V at *
      generalize m * T = M at *
      have e1 : ((G + T : Nat) : Int) - 1 = ((G + (T - 1) : Nat) : Int) := by omega
      have e3 : ¬ (G + T + T ≤ G + (T - 1) ∧ G + (T - 1) < M + T) := by omega
      simp (maxSteps := 1000000) (disch := (first | assumption | exact ne_b rfl | omega)) only [↓reduceIte, ↓zlet_eq, ↓bdR_sI, ↓bdR_sJ, ↓bdR_aI, zc2_some, Option.bind_some, ↓si_m1, ↓si_m2, ↓si_m3, iI_lit, iI_add, iI_sub, iI_mul, leT, leF, ltT, ltF, eqT, eqF, zinT, clI, Int.toNat_natCast, Int.reduceToNat, tN1, tNa, tN0, tNm, if_pos, if_neg, zI_sI, zI_sJ, zI_sR, zJ_sI, zJ_sJ, zJ_sR, zR_sI, zR_sJ, zR_sR, zK_sI, zK_sJ, zK_sR, zL_sI, zL_sJ, zL_sR, zI_aI, zJ_aI, zR_aI, zK_aI, zL_aI, z2_at, z2_a, z2_k, z1_self, z1_ne, true_and, and_true, bIt, bIf, Bool.false_eq_true, Bool.true_eq_false, eq_self, not_true_eq_false, not_false_eq_true, sK76, sK77, sK78, sK79, sK80, sK81, sK82, sK83, sK84, sK85, sK86, sK87, sK88, sK89, sK90, sK91, sK92, sK93, sK94, sK95, sK96, sK97, sK98, sK99, sK100, sL77, sL78, sL79, sL80, sL81, sL82, sL83, sL84, sL85, sL86, sL87, sL88, sL89, sL90, sL91, sL92, sL93, sL94, sL95, sL96, sL97, sL98, sL99, sL100, sR76_5, sR76_16, sR76_18, sR76_19, sR76_20, sR76_21, sR76_23, sR76_25, sR76_26, sR76_27, sR76_28, sR76_29, sR76_30, sR76_31, sR76_32, sR76_33, sR76_34, sR76_37, sR76_38, sR76_39, sR76_40, sR76_41, sR76_42, ↓sB76_5, ↓sB76_16, ↓sB76_18, ↓sB76_19, ↓sB76_20, ↓sB76_21, ↓sB76_23, ↓sB76_25, ↓sB76_26, ↓sB76_27, ↓sB76_28, ↓sB76_29, ↓sB76_30, ↓sB76_31, ↓sB76_32, ↓sB76_33, ↓sB76_34, ↓sB76_37, ↓sB76_38, ↓sB76_39, ↓sB76_40, ↓sB76_41, ↓sB76_42, e1, e3, hlast]
      refine (lp_bd hin).trans ?_
      show kX12_puts_32 h 76 _ (iI T) (iI ((G + T : Nat) : Int)) 1 _ (zaI h 82 _) = _
      unfold kX12_puts_32
      simp (maxSteps := 1000000) (disch := (first | assumption | exact ne_b rfl | omega)) only [↓reduceIte, ↓zlet_eq, ↓bdR_sI, ↓bdR_sJ, ↓bdR_aI, zc2_some, Option.bind_some, ↓si_m1, ↓si_m2, ↓si_m3, iI_lit, iI_add, iI_sub, iI_mul, leT, leF, ltT, ltF, eqT, eqF, zinT, clI, Int.toNat_natCast, Int.reduceToNat, tN1, tNa, tN0, tNm, if_pos, if_neg, zI_sI, zI_sJ, zI_sR, zJ_sI, zJ_sJ, zJ_sR, zR_sI, zR_sJ, zR_sR, zK_sI, zK_sJ, zK_sR, zL_sI, zL_sJ, zL_sR, zI_aI, zJ_aI, zR_aI, zK_aI, zL_aI, z2_at, z2_a, z2_k, z1_self, z1_ne, true_and, and_true, bIt, bIf, Bool.false_eq_true, Bool.true_eq_false, eq_self, not_true_eq_false, not_false_eq_true]
      rw [show ((G + T : Nat) : Int) - (T : Int) = (G : Int) by omega]
    · show bX12_puts_13 h 76 (iI ((v * T : Nat) : Int)) (iI T) (iI (((m - (m - p)) * T : Nat) : Int)) (zaI h 82 _) = _
      rw [show m - (m - p) = p by omega]
      unfold bX12_puts_13
      by_cases c0 : p = 0
      · rw [c0, Nat.zero_mul]
        simp (maxSteps := 1000000) (disch := (first | assumption | exact ne_b rfl | omega)) only [↓reduceIte, ↓zlet_eq, ↓bdR_sI, ↓bdR_sJ, ↓bdR_aI, zc2_some, Option.bind_some, ↓si_m1, ↓si_m2, ↓si_m3, iI_lit, iI_add, iI_sub, iI_mul, leT, leF, ltT, ltF, eqT, eqF, zinT, clI, Int.toNat_natCast, Int.reduceToNat, tN1, tNa, tN0, tNm, if_pos, if_neg, zI_sI, zI_sJ, zI_sR, zJ_sI, zJ_sJ, zJ_sR, zR_sI, zR_sJ, zR_sR, zK_sI, zK_sJ, zK_sR, zL_sI, zL_sJ, zL_sR, zI_aI, zJ_aI, zR_aI, zK_aI, zL_aI, z2_at, z2_a, z2_k, z1_self, z1_ne, true_and, and_true, bIt, bIf, Bool.false_eq_true, Bool.true_eq_false, eq_self, not_true_eq_false, not_false_eq_true]
      · obtain ⟨g, hg⟩ : ∃ g, p = g + 1 := ⟨p - 1, by omega⟩
        have q1 := p3 (by omega)
        rw [hg, show g + 1 - 1 = g by omega] at q1
        have q2 := hs g (by omega)
        have hsT : s g * T ≤ 11880 * 16 := Nat.mul_le_mul (by omega) bT16
        have hlast := fg.2 g (T - 1) (by omega) (by omega)
        have hcmp : s g * T + (T - 1) ≤ v * T := by
          have : (s g + 1) * T ≤ v * T := Nat.mul_le_mul_right _ (by omega)
          rw [Nat.add_mul, Nat.one_mul] at this
          omega
        rw [hg, Nat.add_mul, Nat.one_mul] at hpm ⊢
        generalize g * T = G at *
        generalize s g * T = SG at *
        generalize v * T = V at *
        generalize m * T = M at *
        have e1 : ((G + T : Nat) : Int) - 1 = ((G + (T - 1) : Nat) : Int) := by omega
        have e3 : ¬ (G + T + T ≤ G + (T - 1) ∧ G + (T - 1) < M + T) := by omega
        simp (maxSteps := 1000000) (disch := (first | assumption | exact ne_b rfl | omega)) only [↓reduceIte, ↓zlet_eq, ↓bdR_sI, ↓bdR_sJ, ↓bdR_aI, zc2_some, Option.bind_some, ↓si_m1, ↓si_m2, ↓si_m3, iI_lit, iI_add, iI_sub, iI_mul, leT, leF, ltT, ltF, eqT, eqF, zinT, clI, Int.toNat_natCast, Int.reduceToNat, tN1, tNa, tN0, tNm, if_pos, if_neg, zI_sI, zI_sJ, zI_sR, zJ_sI, zJ_sJ, zJ_sR, zR_sI, zR_sJ, zR_sR, zK_sI, zK_sJ, zK_sR, zL_sI, zL_sJ, zL_sR, zI_aI, zJ_aI, zR_aI, zK_aI, zL_aI, z2_at, z2_a, z2_k, z1_self, z1_ne, true_and, and_true, bIt, bIf, Bool.false_eq_true, Bool.true_eq_false, eq_self, not_true_eq_false, not_false_eq_true, sK76, sK77, sK78, sK79, sK80, sK81, sK82, sK83, sK84, sK85, sK86, sK87, sK88, sK89, sK90, sK91, sK92, sK93, sK94, sK95, sK96, sK97, sK98, sK99, sK100, sL77, sL78, sL79, sL80, sL81, sL82, sL83, sL84, sL85, sL86, sL87, sL88, sL89, sL90, sL91, sL92, sL93, sL94, sL95, sL96, sL97, sL98, sL99, sL100, sR76_5, sR76_16, sR76_18, sR76_19, sR76_20, sR76_21, sR76_23, sR76_25, sR76_26, sR76_27, sR76_28, sR76_29, sR76_30, sR76_31, sR76_32, sR76_33, sR76_34, sR76_37, sR76_38, sR76_39, sR76_40, sR76_41, sR76_42, ↓sB76_5, ↓sB76_16, ↓sB76_18, ↓sB76_19, ↓sB76_20, ↓sB76_21, ↓sB76_23, ↓sB76_25, ↓sB76_26, ↓sB76_27, ↓sB76_28, ↓sB76_29, ↓sB76_30, ↓sB76_31, ↓sB76_32, ↓sB76_33, ↓sB76_34, ↓sB76_37, ↓sB76_38, ↓sB76_39, ↓sB76_40, ↓sB76_41, ↓sB76_42, e1, e3, hlast]
  -- the new ones
  have hnw : lp (fun z : Int32 × Zh => bX12_puts_74 h 76 (iI ((v * T : Nat) : Int)) (iI T) (iI ((p * T : Nat) : Int)) z.1 z.2) zB (iI 0, zaI h 82 (fun a => if p * T + T ≤ a ∧ a < m * T + T then zI h 82 (a - T) else zI h 82 a)) = some (1, (iI T, zaI h 82 (fun a => if p * T ≤ a ∧ a < p * T + T then iI ((v * T + (a - p * T) : Nat) : Int) else if p * T + T ≤ a ∧ a < m * T + T then zI h 82 (a - T) else zI h 82 a))) := by
    generalize v * T = V at *
    generalize p * T = Q at *
    generalize m * T = M at *
    refine lp_for0 (st := fun e => ((iI (e : Int), zaI h 82 (fun a => if Q ≤ a ∧ a < Q + e then iI ((V + (a - Q) : Nat) : Int) else if Q + T ≤ a ∧ a < M + T then zI h 82 (a - T) else zI h 82 a)) : Int32 × Zh)) (e := 0) T ?_ (by omega) ?_ ?_
    · congr 2
      funext a
      rw [if_neg (show ¬ (Q ≤ a ∧ a < Q + 0) by omega)]
    · intro e he
      show bX12_puts_74 h 76 (iI V) (iI T) (iI Q) (iI e) (zaI h 82 _) = _
      unfold bX12_puts_74
      have e1 : (Q : Int) + (e : Int) = ((Q + e : Nat) : Int) := by omega
      have e2 : (V : Int) + (e : Int) = ((V + e : Nat) : Int) := by omega
      simp (maxSteps := 1000000) (disch := (first | assumption | exact ne_b rfl | omega)) only [↓reduceIte, ↓zlet_eq, ↓bdR_sI, ↓bdR_sJ, ↓bdR_aI, zc2_some, Option.bind_some, ↓si_m1, ↓si_m2, ↓si_m3, iI_lit, iI_add, iI_sub, iI_mul, leT, leF, ltT, ltF, eqT, eqF, zinT, clI, Int.toNat_natCast, Int.reduceToNat, tN1, tNa, tN0, tNm, if_pos, if_neg, zI_sI, zI_sJ, zI_sR, zJ_sI, zJ_sJ, zJ_sR, zR_sI, zR_sJ, zR_sR, zK_sI, zK_sJ, zK_sR, zL_sI, zL_sJ, zL_sR, zI_aI, zJ_aI, zR_aI, zK_aI, zL_aI, z2_at, z2_a, z2_k, z1_self, z1_ne, true_and, and_true, bIt, bIf, Bool.false_eq_true, Bool.true_eq_false, eq_self, not_true_eq_false, not_false_eq_true, sK76, sK77, sK78, sK79, sK80, sK81, sK82, sK83, sK84, sK85, sK86, sK87, sK88, sK89, sK90, sK91, sK92, sK93, sK94, sK95, sK96, sK97, sK98, sK99, sK100, sL77, sL78, sL79, sL80, sL81, sL82, sL83, sL84, sL85, sL86, sL87, sL88, sL89, sL90, sL91, sL92, sL93, sL94, sL95, sL96, sL97, sL98, sL99, sL100, sR76_5, sR76_16, sR76_18, sR76_19, sR76_20, sR76_21, sR76_23, sR76_25, sR76_26, sR76_27, sR76_28, sR76_29, sR76_30, sR76_31, sR76_32, sR76_33, sR76_34, sR76_37, sR76_38, sR76_39, sR76_40, sR76_41, sR76_42, ↓sB76_5, ↓sB76_16, ↓sB76_18, ↓sB76_19, ↓sB76_20, ↓sB76_21, ↓sB76_23, ↓sB76_25, ↓sB76_26, ↓sB76_27, ↓sB76_28, ↓sB76_29, ↓sB76_30, ↓sB76_31, ↓sB76_32, ↓sB76_33, ↓sB76_34, ↓sB76_37, ↓sB76_38, ↓sB76_39, ↓sB76_40, ↓sB76_41, ↓sB76_42, e1, e2, zsI_aI]
      rw [show (e : Int) + 1 = ((e + 1 : Nat) : Int) by omega]
      congr 4
      funext a
      unfold z1
      dsimp only
      by_cases c : a = Q + e
      · rw [if_pos c, if_pos (by omega), c, show Q + e - Q = e by omega]
      · rw [if_neg c]
        by_cases c2 : Q ≤ a ∧ a < Q + e
        · rw [if_pos c2, if_pos (by omega)]
        · rw [if_neg c2, if_neg (show ¬ (Q ≤ a ∧ a < Q + (e + 1)) by omega)]
    · show bX12_puts_74 h 76 (iI V) (iI T) (iI Q) (iI T) (zaI h 82 _) = _
      unfold bX12_puts_74
      simp (maxSteps := 1000000) (disch := (first | assumption | exact ne_b rfl | omega)) only [↓reduceIte, ↓zlet_eq, ↓bdR_sI, ↓bdR_sJ, ↓bdR_aI, zc2_some, Option.bind_some, ↓si_m1, ↓si_m2, ↓si_m3, iI_lit, iI_add, iI_sub, iI_mul, leT, leF, ltT, ltF, eqT, eqF, zinT, clI, Int.toNat_natCast, Int.reduceToNat, tN1, tNa, tN0, tNm, if_pos, if_neg, zI_sI, zI_sJ, zI_sR, zJ_sI, zJ_sJ, zJ_sR, zR_sI, zR_sJ, zR_sR, zK_sI, zK_sJ, zK_sR, zL_sI, zL_sJ, zL_sR, zI_aI, zJ_aI, zR_aI, zK_aI, zL_aI, z2_at, z2_a, z2_k, z1_self, z1_ne, true_and, and_true, bIt, bIf, Bool.false_eq_true, Bool.true_eq_false, eq_self, not_true_eq_false, not_false_eq_true]
  have e22 := fg.1
  refine ⟨zsI (zaI h 82 (fun a => if p * T ≤ a ∧ a < p * T + T then iI ((v * T + (a - p * T) : Nat) : Int) else if p * T + T ≤ a ∧ a < m * T + T then zI h 82 (a - T) else zI h 82 a)) 76 22 (iI (((m + 1) * T : Nat) : Int)), ?_, (Fm_aI _ _ (by simp)).tr (Fm_sI _ _ _ (by simp)), fun j hj => by rw [zI_sI, z2_k _ _ _ hj, zI_aI, z1_ne _ _ (by decide)], by rw [zI_sI, z2_at], fun g u hg hu => ?_⟩
  · have e5 : (m + 1) * T = m * T + T := by rw [Nat.add_mul, Nat.one_mul]
    rw [e5]
    unfold fX12_puts
    generalize v * T = V at *
    generalize p * T = Q at *
    generalize m * T = M at *
    simp (maxSteps := 1000000) (disch := (first | assumption | exact ne_b rfl | omega)) only [↓reduceIte, ↓zlet_eq, ↓bdR_sI, ↓bdR_sJ, ↓bdR_aI, zc2_some, Option.bind_some, ↓si_m1, ↓si_m2, ↓si_m3, iI_lit, iI_add, iI_sub, iI_mul, leT, leF, ltT, ltF, eqT, eqF, zinT, clI, Int.toNat_natCast, Int.reduceToNat, tN1, tNa, tN0, tNm, if_pos, if_neg, zI_sI, zI_sJ, zI_sR, zJ_sI, zJ_sJ, zJ_sR, zR_sI, zR_sJ, zR_sR, zK_sI, zK_sJ, zK_sR, zL_sI, zL_sJ, zL_sR, zI_aI, zJ_aI, zR_aI, zK_aI, zL_aI, z2_at, z2_a, z2_k, z1_self, z1_ne, true_and, and_true, bIt, bIf, Bool.false_eq_true, Bool.true_eq_false, eq_self, not_true_eq_false, not_false_eq_true, sK76, sK77, sK78, sK79, sK80, sK81, sK82, sK83, sK84, sK85, sK86, sK87, sK88, sK89, sK90, sK91, sK92, sK93, sK94, sK95, sK96, sK97, sK98, sK99, sK100, sL77, sL78, sL79, sL80, sL81, sL82, sL83, sL84, sL85, sL86, sL87, sL88, sL89, sL90, sL91, sL92, sL93, sL94, sL95, sL96, sL97, sL98, sL99, sL100, sR76_5, sR76_16, sR76_18, sR76_19, sR76_20, sR76_21, sR76_23, sR76_25, sR76_26, sR76_27, sR76_28, sR76_29, sR76_30, sR76_31, sR76_32, sR76_33, sR76_34, sR76_37, sR76_38, sR76_39, sR76_40, sR76_41, sR76_42, ↓sB76_5, ↓sB76_16, ↓sB76_18, ↓sB76_19, ↓sB76_20, ↓sB76_21, ↓sB76_23, ↓sB76_25, ↓sB76_26, ↓sB76_27, ↓sB76_28, ↓sB76_29, ↓sB76_30, ↓sB76_31, ↓sB76_32, ↓sB76_33, ↓sB76_34, ↓sB76_37, ↓sB76_38, ↓sB76_39, ↓sB76_40, ↓sB76_41, ↓sB76_42, ↓bd_of r3, q.fK, q.f0, q.f1, q.f2, q.f3, q.f4, q.f7, q.f8, q.f9, ↓zc_of hti, e22]
    refine (lp_bd hmv).trans ?_
    show kX12_puts_13 h 76 (iI V) (iI T) 1 (iI Q) (zaI h 82 _) = _
    unfold kX12_puts_13
    refine (lp_bd hnw).trans ?_
    show kX12_puts_74 h 76 (iI T) 1 (iI T) (zaI h 82 _) = _
    unfold kX12_puts_74
    simp (maxSteps := 1000000) (disch := (first | assumption | exact ne_b rfl | omega)) only [↓reduceIte, ↓zlet_eq, ↓bdR_sI, ↓bdR_sJ, ↓bdR_aI, zc2_some, Option.bind_some, ↓si_m1, ↓si_m2, ↓si_m3, iI_lit, iI_add, iI_sub, iI_mul, leT, leF, ltT, ltF, eqT, eqF, zinT, clI, Int.toNat_natCast, Int.reduceToNat, tN1, tNa, tN0, tNm, if_pos, if_neg, zI_sI, zI_sJ, zI_sR, zJ_sI, zJ_sJ, zJ_sR, zR_sI, zR_sJ, zR_sR, zK_sI, zK_sJ, zK_sR, zL_sI, zL_sJ, zL_sR, zI_aI, zJ_aI, zR_aI, zK_aI, zL_aI, z2_at, z2_a, z2_k, z1_self, z1_ne, true_and, and_true, bIt, bIf, Bool.false_eq_true, Bool.true_eq_false, eq_self, not_true_eq_false, not_false_eq_true, e22]
    rfl
  · rw [zI_sI, z2_a _ _ _ _ (by decide), zI_aI, z1_self]
    unfold insA
    have hgm : (g + 1) * T ≤ (m + 1) * T := Nat.mul_le_mul_right _ hg
    rw [Nat.add_mul, Nat.one_mul, Nat.add_mul, Nat.one_mul] at hgm
    by_cases c1 : g < p
    · have h1 : (g + 1) * T ≤ p * T := Nat.mul_le_mul_right _ c1
      rw [Nat.add_mul, Nat.one_mul] at h1
      rw [if_pos c1, if_neg (by omega), if_neg (by omega)]
      exact fg.2 g u (by omega) hu
    · by_cases c2 : g = p
      · subst c2
        rw [if_neg c1, if_pos rfl, if_pos ⟨by omega, by omega⟩, show g * T + u - g * T = u by omega]
      · obtain ⟨g', hg'⟩ : ∃ g', g = g' + 1 := ⟨g - 1, by omega⟩
        have h1 : (p + 1) * T ≤ g * T := Nat.mul_le_mul_right _ (by omega)
        rw [Nat.add_mul, Nat.one_mul] at h1
        rw [if_neg c1, if_neg c2, if_neg (by omega), if_pos ⟨by omega, by omega⟩, hg', show g' + 1 - 1 = g' by omega, Nat.add_mul, Nat.one_mul, show g' * T + T + u - T = g' * T + u by omega]
        exact fg.2 g' u (by omega) hu
theorem srt_crC {t : Tk} (tok : Tok t) {x : Nat} (hx : x < tH t) : ∀ i, i < pcn t → srt (crS t x) (pcn t) i = crC t x i := by
  have hd : dst (crS t x) (pcn t) := fun a b h1 h2 e => crS_ne tok hx h1 h2 e
  obtain ⟨s1, s2⟩ := srt_ok (pcn t) hd
  have r2 : ris (crC t x) (pcn t) := fun i j h1 h2 => crC_asc tok x hx i j h1 h2
  refine ris_uniq s1 r2 ?_
  rw [s2]
  cases hst : tst t
  · exact fmask_congr _ (fun i _ => (crC_she hst x i).symm)
  · obtain ⟨-, -, s3, s4⟩ := crC_st tok hst hx
    refine fmask_ext (fun i hi => ?_) (fun j hj => ?_)
    · obtain ⟨j, j1, j2⟩ := s4 i hi
      exact ⟨j, j1, j2⟩
    · obtain ⟨i, i1, i2⟩ := s3 j hj
      exact ⟨i, i1, i2⟩
/-- the rows of a hand as the model lists them -/
theorem fX12_fitsOf_eq {tr x : Nat} {t : Tk} {h : Zh} (s : St h) (htr : 101 ≤ tr) (r3 : zR h 76 3 = some tr) (q : Tr h tr t) (cd : Cd h t) (cm : Cdm h t) (tok : Tok t) (hx : x < tH t) : ∃ h', fX12_fitsOf 76 (iI x) h = some h' ∧ Fm [76, 80, 82] h h' ∧ (∀ j, j ≠ 22 → zI h' 76 j = zI h 76 j) ∧ FG h' (tT t) (pcn t) (crC t x) := by
  obtain ⟨bn4, bn12, bu1, bu4, bnu, bk2, bk5, bkn, bp1, bp2, bpk, bH, bsp, bs1, bs4, bT1, bT16, bR1, bR2, bH1, bff, bff1⟩ := tok.b
  have hpb := pcn_b tok
  have hd : dst (crS t x) (pcn t) := fun a b h1 h2 e => crS_ne tok hx h1 h2 e
  have := lp_cnt (body := fun z : Int32 × Zh => bX12_fitsOf_7 h 76 (iI x) z.1 z.2) (pcn t) (fun c z => ∃ h1, z = ((iI (c : Int), h1) : Int32 × Zh) ∧ Fm [76, 80, 82] h h1 ∧ (∀ j, j ≠ 22 → zI h1 76 j = zI h 76 j) ∧ FG h1 (tT t) c (srt (crS t x) c)) (fun e z => e = 1 ∧ Fm [76, 80, 82] h z.2 ∧ (∀ j, j ≠ 22 → zI z.2 76 j = zI h 76 j) ∧ FG z.2 (tT t) (pcn t) (srt (crS t x) (pcn t))) ?_ ?_ (by omega) (s := (iI 0, zsI h 76 22 (iI 0))) ⟨zsI h 76 22 (iI 0), rfl, Fm_sI _ _ _ (by simp), fun j hj => by rw [zI_sI, z2_k _ _ _ hj], by rw [zI_sI, z2_at, Nat.zero_mul]; rfl, fun g u hg => by omega⟩
  · obtain ⟨e, z, l1, l2, l3, l4, l5⟩ := this
    have e0 : e = 0 := by omega
    subst e0
    refine ⟨z.2, ?_, l3, l4, l5.1, fun g u hg hu => by rw [l5.2 g u hg hu, srt_crC tok hx g hg]⟩
    unfold fX12_fitsOf
    simp (maxSteps := 1000000) (disch := (first | assumption | exact ne_b rfl | omega)) only [↓reduceIte, ↓zlet_eq, ↓bdR_sI, ↓bdR_sJ, ↓bdR_aI, zc2_some, Option.bind_some, ↓si_m1, ↓si_m2, ↓si_m3, iI_lit, iI_add, iI_sub, iI_mul, leT, leF, ltT, ltF, eqT, eqF, zinT, clI, Int.toNat_natCast, Int.reduceToNat, tN1, tNa, tN0, tNm, if_pos, if_neg, zI_sI, zI_sJ, zI_sR, zJ_sI, zJ_sJ, zJ_sR, zR_sI, zR_sJ, zR_sR, zK_sI, zK_sJ, zK_sR, zL_sI, zL_sJ, zL_sR, zI_aI, zJ_aI, zR_aI, zK_aI, zL_aI, z2_at, z2_a, z2_k, z1_self, z1_ne, true_and, and_true, bIt, bIf, Bool.false_eq_true, Bool.true_eq_false, eq_self, not_true_eq_false, not_false_eq_true, sK76, sK77, sK78, sK79, sK80, sK81, sK82, sK83, sK84, sK85, sK86, sK87, sK88, sK89, sK90, sK91, sK92, sK93, sK94, sK95, sK96, sK97, sK98, sK99, sK100, sL77, sL78, sL79, sL80, sL81, sL82, sL83, sL84, sL85, sL86, sL87, sL88, sL89, sL90, sL91, sL92, sL93, sL94, sL95, sL96, sL97, sL98, sL99, sL100, sR76_5, sR76_16, sR76_18, sR76_19, sR76_20, sR76_21, sR76_23, sR76_25, sR76_26, sR76_27, sR76_28, sR76_29, sR76_30, sR76_31, sR76_32, sR76_33, sR76_34, sR76_37, sR76_38, sR76_39, sR76_40, sR76_41, sR76_42, ↓sB76_5, ↓sB76_16, ↓sB76_18, ↓sB76_19, ↓sB76_20, ↓sB76_21, ↓sB76_23, ↓sB76_25, ↓sB76_26, ↓sB76_27, ↓sB76_28, ↓sB76_29, ↓sB76_30, ↓sB76_31, ↓sB76_32, ↓sB76_33, ↓sB76_34, ↓sB76_37, ↓sB76_38, ↓sB76_39, ↓sB76_40, ↓sB76_41, ↓sB76_42]
    exact lp_bd l1
  · intro c z hcp ⟨h1, ez, fm, k1, k2⟩
    subst ez
    have s1 := s.fm fm
    have q1 := q.fm fm (by simp; omega)
    have r31 : zR h1 76 3 = some tr := by rw [fm.R]; exact r3
    have cd1 : Cd h1 t := ⟨by rw [k1 17 (by decide)]; exact cd.1, by rw [fm.I (by simp)]; exact cd.2⟩
    obtain ⟨code, c1, c2, c3⟩ := cm.2 c hcp
    have c83 : zI h1 83 c = iI code := by rw [fm.I (by simp)]; exact c1
    have hpl := plc_vld tok hcp
    obtain ⟨d1, d2⟩ := pos_ok tok hx hpl
    have hcl := crS_lt tok hx hcp
    have fm1 : Fm [80] h1 (zaI h1 80 (afill (tsh t) (fun j => iI (hc t x (plc t c j))) (zI h1 80))) := Fm_aI _ _ (by simp)
    have hl : lp (fun z : Int32 × Zh => bX12_fitsOf_17 h 76 (iI x) (iI c) z.1 z.2) zB (iI 0, h1) = some (1, (iI (tsh t), zaI h1 80 (afill (tsh t) (fun j => iI (hc t x (plc t c j))) (zI h1 80)))) := by
      refine lp_for0 (st := fun j => ((iI (j : Int), zaI h1 80 (afill j (fun j => iI (hc t x (plc t c j))) (zI h1 80))) : Int32 × Zh)) (e := 0) (tsh t) (by rw [zaI_f0]; rfl) (by omega) ?_ ?_
      · intro j hj
        show bX12_fitsOf_17 h 76 (iI x) (iI c) (iI j) (zaI h1 80 _) = _
        unfold bX12_fitsOf_17
        have fm2 : Fm [80] h1 (zaI h1 80 (afill j (fun j => iI (hc t x (plc t c j))) (zI h1 80))) := Fm_aI _ _ (by simp)
        have hpj := hpl.1 j hj
        have e1 : (3 : Int) * ((tsh t : Int) - 1 - (j : Int)) = ((3 * (tsh t - 1 - j) : Nat) : Int) := by omega
        have hdig : (iI (code : Int) >>> (iI ((3 * (tsh t - 1 - j) : Nat) : Int) &&& iI 31)) &&& iI 7 = iI (plc t c j) := by
          rw [show iI 31 = (31 : Int32) from rfl, iI_shr (by omega) (by omega), show iI 7 = iI ((7 : Nat) : Int) from rfl, iI_and, ← c3 j hj]
          unfold dgc
          rw [show (7 : Nat) = 2 ^ 3 - 1 from rfl, Nat.and_two_pow_sub_one_eq_mod]
        have hco := fX12_cardOf_eq (s1.fm fm2) (cd1.fm fm2 (by simp) (by simp)) tok hx hpj
        have nt80 : tr ≠ 80 := by omega
        simp (maxSteps := 1000000) (disch := (first | assumption | exact ne_b rfl | omega)) only [↓reduceIte, ↓zlet_eq, ↓bdR_sI, ↓bdR_sJ, ↓bdR_aI, zc2_some, Option.bind_some, ↓si_m1, ↓si_m2, ↓si_m3, iI_lit, iI_add, iI_sub, iI_mul, leT, leF, ltT, ltF, eqT, eqF, zinT, clI, Int.toNat_natCast, Int.reduceToNat, tN1, tNa, tN0, tNm, if_pos, if_neg, zI_sI, zI_sJ, zI_sR, zJ_sI, zJ_sJ, zJ_sR, zR_sI, zR_sJ, zR_sR, zK_sI, zK_sJ, zK_sR, zL_sI, zL_sJ, zL_sR, zI_aI, zJ_aI, zR_aI, zK_aI, zL_aI, z2_at, z2_a, z2_k, z1_self, z1_ne, true_and, and_true, bIt, bIf, Bool.false_eq_true, Bool.true_eq_false, eq_self, not_true_eq_false, not_false_eq_true, sK76, sK77, sK78, sK79, sK80, sK81, sK82, sK83, sK84, sK85, sK86, sK87, sK88, sK89, sK90, sK91, sK92, sK93, sK94, sK95, sK96, sK97, sK98, sK99, sK100, sL77, sL78, sL79, sL80, sL81, sL82, sL83, sL84, sL85, sL86, sL87, sL88, sL89, sL90, sL91, sL92, sL93, sL94, sL95, sL96, sL97, sL98, sL99, sL100, sR76_5, sR76_16, sR76_18, sR76_19, sR76_20, sR76_21, sR76_23, sR76_25, sR76_26, sR76_27, sR76_28, sR76_29, sR76_30, sR76_31, sR76_32, sR76_33, sR76_34, sR76_37, sR76_38, sR76_39, sR76_40, sR76_41, sR76_42, ↓sB76_5, ↓sB76_16, ↓sB76_18, ↓sB76_19, ↓sB76_20, ↓sB76_21, ↓sB76_23, ↓sB76_25, ↓sB76_26, ↓sB76_27, ↓sB76_28, ↓sB76_29, ↓sB76_30, ↓sB76_31, ↓sB76_32, ↓sB76_33, ↓sB76_34, ↓sB76_37, ↓sB76_38, ↓sB76_39, ↓sB76_40, ↓sB76_41, ↓sB76_42, ↓bd_of r31, q.fK, q1.fK, q1.f0, q1.f1, q1.f2, q1.f3, q1.f4, q1.f7, q1.f8, q1.f9, c83, e1, hdig, hco, zsI_aI]
        rw [afill_s (i := j) (A := fun j => iI (hc t x (plc t c j))) rfl]
        rfl
      · show bX12_fitsOf_17 h 76 (iI x) (iI c) (iI (tsh t)) (zaI h1 80 _) = _
        unfold bX12_fitsOf_17
        have nt80 : tr ≠ 80 := by omega
        simp (maxSteps := 1000000) (disch := (first | assumption | exact ne_b rfl | omega)) only [↓reduceIte, ↓zlet_eq, ↓bdR_sI, ↓bdR_sJ, ↓bdR_aI, zc2_some, Option.bind_some, ↓si_m1, ↓si_m2, ↓si_m3, iI_lit, iI_add, iI_sub, iI_mul, leT, leF, ltT, ltF, eqT, eqF, zinT, clI, Int.toNat_natCast, Int.reduceToNat, tN1, tNa, tN0, tNm, if_pos, if_neg, zI_sI, zI_sJ, zI_sR, zJ_sI, zJ_sJ, zJ_sR, zR_sI, zR_sJ, zR_sR, zK_sI, zK_sJ, zK_sR, zL_sI, zL_sJ, zL_sR, zI_aI, zJ_aI, zR_aI, zK_aI, zL_aI, z2_at, z2_a, z2_k, z1_self, z1_ne, true_and, and_true, bIt, bIf, Bool.false_eq_true, Bool.true_eq_false, eq_self, not_true_eq_false, not_false_eq_true, sK76, sK77, sK78, sK79, sK80, sK81, sK82, sK83, sK84, sK85, sK86, sK87, sK88, sK89, sK90, sK91, sK92, sK93, sK94, sK95, sK96, sK97, sK98, sK99, sK100, sL77, sL78, sL79, sL80, sL81, sL82, sL83, sL84, sL85, sL86, sL87, sL88, sL89, sL90, sL91, sL92, sL93, sL94, sL95, sL96, sL97, sL98, sL99, sL100, sR76_5, sR76_16, sR76_18, sR76_19, sR76_20, sR76_21, sR76_23, sR76_25, sR76_26, sR76_27, sR76_28, sR76_29, sR76_30, sR76_31, sR76_32, sR76_33, sR76_34, sR76_37, sR76_38, sR76_39, sR76_40, sR76_41, sR76_42, ↓sB76_5, ↓sB76_16, ↓sB76_18, ↓sB76_19, ↓sB76_20, ↓sB76_21, ↓sB76_23, ↓sB76_25, ↓sB76_26, ↓sB76_27, ↓sB76_28, ↓sB76_29, ↓sB76_30, ↓sB76_31, ↓sB76_32, ↓sB76_33, ↓sB76_34, ↓sB76_37, ↓sB76_38, ↓sB76_39, ↓sB76_40, ↓sB76_41, ↓sB76_42, ↓bd_of r31, q.fK, q1.fK, q1.f0, q1.f1, q1.f2, q1.f3, q1.f4, q1.f7, q1.f8, q1.f9]
    have s2 := s1.fm fm1
    have q2 := q1.fm fm1 (by simp; omega)
    have r32 : zR (zaI h1 80 (afill (tsh t) (fun j => iI (hc t x (plc t c j))) (zI h1 80))) 76 3 = some tr := r31
    have er := fX12_rowNumber_eq (r1 := 80) (fr := 0) (L := 5) (w := fun j => hc t x (plc t c j)) s2 r32 q2 tok (sK80 s2) (sL80 s2) (by decide) (by omega) (fun y hy => ⟨by rw [zI_aI, z1_self, Nat.zero_add, afill_lt hy], d2 y hy⟩) d1
    have er' : fX12_rowNumber 76 80 (iI 0) (zaI h1 80 (afill (tsh t) (fun j => iI (hc t x (plc t c j))) (zI h1 80))) = some (iI (crS t x c), zaI h1 80 (afill (tsh t) (fun j => iI (hc t x (plc t c j))) (zI h1 80))) := er
    have hfg1 : FG (zaI h1 80 (afill (tsh t) (fun j => iI (hc t x (plc t c j))) (zI h1 80))) (tT t) c (srt (crS t x) c) := by
      unfold FG
      rw [fm1.I (by simp), fm1.I (by simp)]
      exact k2
    obtain ⟨so1, so2⟩ := srt_ok c (hd.le (by omega))
    obtain ⟨h2, r1, r2, r4, r5⟩ := fX12_puts_eq (v := crS t x c) (m := c) s2 htr r32 q2 tok (by omega) (by omega) (fun g hg => ⟨by
      have := srt_lt (hd.le (show c ≤ pcn t by omega)) (n := 11880) (fun j hj => by have := crS_lt tok hx (show j < pcn t by omega); omega) g hg
      exact this, fun e => by
      obtain ⟨j, j1, j2⟩ := mem_mask so2 g hg
      rw [e] at j2
      exact hd j c j1 hcp j2⟩) hfg1
    refine Or.inl ⟨(iI ((c + 1 : Nat) : Int), h2), ?_, h2, rfl, (fm.tr (fm1.mono (by simp))).tr (r2.mono (by simp)), fun j hj => by rw [r4 j hj, fm1.I (by simp), k1 j hj], r5⟩
    show bX12_fitsOf_7 h 76 (iI x) (iI c) h1 = _
    unfold bX12_fitsOf_7
    have e24 : zI h1 76 24 = iI (pcn t) := by rw [k1 24 (by decide)]; exact cm.1
    rw [e24, if_neg (by rw [iI_le ⟨by omega, by omega⟩ ⟨by omega, by omega⟩]; omega)]
    refine (lp_bd hl).trans ?_
    show kX12_fitsOf_17 h 76 (iI x) (iI c) 1 (iI (tsh t)) (zaI h1 80 _) = _
    unfold kX12_fitsOf_17
    have r1' : fX12_puts 76 (iI ((crS t x c : Int) * (tT t : Int))) (zaI h1 80 (afill (tsh t) (fun j => iI (hc t x (plc t c j))) (zI h1 80))) = some h2 := by
      rw [← Int.natCast_mul]
      exact r1
    simp (maxSteps := 1000000) (disch := (first | assumption | exact ne_b rfl | omega)) only [↓reduceIte, ↓zlet_eq, ↓bdR_sI, ↓bdR_sJ, ↓bdR_aI, zc2_some, Option.bind_some, ↓si_m1, ↓si_m2, ↓si_m3, iI_lit, iI_add, iI_sub, iI_mul, leT, leF, ltT, ltF, eqT, eqF, zinT, clI, Int.toNat_natCast, Int.reduceToNat, tN1, tNa, tN0, tNm, if_pos, if_neg, zI_sI, zI_sJ, zI_sR, zJ_sI, zJ_sJ, zJ_sR, zR_sI, zR_sJ, zR_sR, zK_sI, zK_sJ, zK_sR, zL_sI, zL_sJ, zL_sR, zI_aI, zJ_aI, zR_aI, zK_aI, zL_aI, z2_at, z2_a, z2_k, z1_self, z1_ne, true_and, and_true, bIt, bIf, Bool.false_eq_true, Bool.true_eq_false, eq_self, not_true_eq_false, not_false_eq_true, sK76, sK77, sK78, sK79, sK80, sK81, sK82, sK83, sK84, sK85, sK86, sK87, sK88, sK89, sK90, sK91, sK92, sK93, sK94, sK95, sK96, sK97, sK98, sK99, sK100, sL77, sL78, sL79, sL80, sL81, sL82, sL83, sL84, sL85, sL86, sL87, sL88, sL89, sL90, sL91, sL92, sL93, sL94, sL95, sL96, sL97, sL98, sL99, sL100, sR76_5, sR76_16, sR76_18, sR76_19, sR76_20, sR76_21, sR76_23, sR76_25, sR76_26, sR76_27, sR76_28, sR76_29, sR76_30, sR76_31, sR76_32, sR76_33, sR76_34, sR76_37, sR76_38, sR76_39, sR76_40, sR76_41, sR76_42, ↓sB76_5, ↓sB76_16, ↓sB76_18, ↓sB76_19, ↓sB76_20, ↓sB76_21, ↓sB76_23, ↓sB76_25, ↓sB76_26, ↓sB76_27, ↓sB76_28, ↓sB76_29, ↓sB76_30, ↓sB76_31, ↓sB76_32, ↓sB76_33, ↓sB76_34, ↓sB76_37, ↓sB76_38, ↓sB76_39, ↓sB76_40, ↓sB76_41, ↓sB76_42, ↓bd_of r31, q.fK, er', fX11_tilts_eq q2 tok, r1']
    rfl
  · intro z ⟨h1, ez, fm, k1, k2⟩
    subst ez
    have e24 : zI h1 76 24 = iI (pcn t) := by rw [k1 24 (by decide)]; exact cm.1
    refine ⟨0, (iI (pcn t), h1), ?_, rfl, fm, k1, k2⟩
    show bX12_fitsOf_7 h 76 (iI x) (iI (pcn t)) h1 = _
    unfold bX12_fitsOf_7
    rw [e24, if_pos (by rw [iI_le ⟨by omega, by omega⟩ ⟨by omega, by omega⟩]; omega)]
