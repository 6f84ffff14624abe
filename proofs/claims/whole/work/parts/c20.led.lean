/-! led: the hand that both find, or none -/
noncomputable def ldV (v : Vw) (x i : Int) : Option Nat := if 0 ≤ x ∧ x < RCv v ∧ 0 ≤ i ∧ i < fcl (lay v.t (v.ru x.toNat)) (tH v.t) then some (zfst (flP (lay v.t (v.ru x.toNat)) i.toNat) (tH v.t)) else none
theorem ldV_b {v : Vw} (ok : VOK v) {x i : Int} {n : Nat} (h : ldV v x i = some n) : n < 2000 := by
  unfold ldV at h
  by_cases c : 0 ≤ x ∧ x < RCv v ∧ 0 ≤ i ∧ i < fcl (lay v.t (v.ru x.toNat)) (tH v.t)
  · rw [if_pos c] at h
    have hn := Option.some.inj h
    obtain ⟨on, -⟩ := RCv_on ⟨c.1, c.2.1⟩
    have tok := (ok.2.2.2.2.2.2 on).1
    have hH := tok.b.2.2.2.2.2.2.2.2.2.2.2.1
    have := flP_ex (ρ := lay v.t (v.ru x.toNat)) (n := i.toNat) (H := tH v.t) (by omega)
    omega
  · rw [if_neg c] at h; cases h
/-- the class, up to its throw -/
theorem led_c {h : Zh} {v : Vw} {u tr ra : Nat} {x i : Int} (ok : VOK v) (c : KC h v u tr ra) (hx : 0 ≤ x ∧ x < RCv v) (hi : iR i) (hu : u ≤ 60000) : ∃ (k : Nat) (h1 : Zh), x = k ∧ fX4_laidBy 25 (iI k) h = some (54 + 2 * k, h1) ∧ fX4_failedHand 25 (54 + 2 * k) (iI i) h1 = some (iI (match ldV v x i with | some n => (n : Int) | none => -2), h1) ∧ KC h1 v (u + 1) tr ra ∧ Fc (CFr tr ra) h h1 ∧ zI h1 0 8 = zI h 0 8 := by
  obtain ⟨on, k, ek, hk⟩ := RCv_on hx
  have tok := (ok.2.2.2.2.2.2 on).1
  have hrc := (ok.2.2.2.2.2.2 on).2.1
  have hN := c.1.1
  obtain ⟨CR, OW, se, sp, rdy, lg, b1, b2, b3, b4, b5⟩ := c.lg on
  obtain ⟨h1, e1, c1, f1, l1, -⟩ := laid_c ok on c hk hu
  obtain ⟨CR1, OW1, se1, sp1, rdy1, lg1, -⟩ := c1.lg on
  have e2 := fX4_failedHand_eq (n := i) tok c1.1 lg1.2.1 lg1.2.2.1 hk ⟨by have := hi.1; omega, hi.2⟩ (fun x hx => lay_i tok hx) l1.2.1.1 l1.2.1.2.1
  refine ⟨k, h1, ek, e1, ?_, c1, f1, ?_⟩
  · rw [e2]
    unfold ldV
    have hkn : x.toNat = k := by omega
    rw [hkn]
    by_cases q : 0 ≤ i ∧ i < fcl (lay v.t (v.ru k)) (tH v.t)
    · rw [if_pos q, if_pos ⟨hx.1, hx.2, q.1, q.2⟩]
    · rw [if_neg q, if_neg (fun z => q ⟨z.2.2.1, z.2.2.2⟩)]
  · have hcr := lg.2.2.2.2.1.2.2.2.2.2.2.2.1
    have how := lg.2.2.2.2.1.2.2.2.2.2.2.2.2.1
    obtain ⟨h1', CR', OW', se', sp', rdy', e1', -, -, e4, -⟩ := fX4_laidBy_eq tok lg hk (by omega) (by omega) (by omega) (fun hH => by have := Pot_ok (h := h) (CR := CR) (OW := OW) tok hH; omega)
    rw [e1] at e1'
    have e5 := Option.some.inj e1'
    injection e5 with e6 e7
    rw [e7, e4.I (by omega) (by omega)]
/-- the model -/
theorem led_10 {g h0 : Zh} {v : Vw} {tr ra : Nat} {x i : Int} (ok : VOK v) (m : KM h0 v tr ra) (hx : iR x) (hi : iR i) : ∃ e y z h1, lp (fun q : Int32 × Int32 × Zh => bX12_led_10 g 76 (iI x) (iI i) q.1 q.2.1 q.2.2) zB (iI 0, iI 0, h0) = some (e, (y, z, h1)) ∧ KM h1 v tr ra ∧ MFz h0 h1 ∧ (∀ j, j ≠ 22 → j ≠ 35 → j ≠ 36 → zI h1 76 j = zI h0 76 j) ∧ ((e = 1 ∧ ∃ n, ldV v x i = some n ∧ z = iI n) ∨ (e = 2 ∧ ldV v x i = none)) := by
  have hi1 := hi.1
  have hi2 := hi.2
  by_cases p : 0 ≤ x ∧ x < RCv v
  · obtain ⟨on, k, ek, hk⟩ := RCv_on p
    have tok := (ok.2.2.2.2.2.2 on).1
    have hH := tok.b.2.2.2.2.2.2.2.2.2.2.2.1
    have hkn : x.toNat = k := by omega
    have hlb : ∀ y, y < tH v.t → lay v.t (v.ru k) y = -2 ∨ (0 ≤ lay v.t (v.ru k) y ∧ lay v.t (v.ru k) y < 2147483648) := fun y hy => by
      have hR := tok.b.2.2.2.2.2.2.2.2.2.2.2.2.2.2.2.2.2.2.1
      rcases lay_b tok (kind := v.ru k) hy with q | q
      · exact Or.inl q
      · exact Or.inr (by omega)
    have := lp_cnt (body := fun q : Int32 × Int32 × Zh => bX12_led_10 g 76 (iI x) (iI i) q.1 q.2.1 q.2.2) (tH v.t) (fun a z => ∃ h1, z = ((iI (fcl (lay v.t (v.ru k)) a : Nat), iI (a : Int), h1) : Int32 × Int32 × Zh) ∧ KM h1 v tr ra ∧ MFz h0 h1 ∧ (∀ j, j ≠ 22 → j ≠ 35 → j ≠ 36 → zI h1 76 j = zI h0 76 j) ∧ ∀ b, b < a → ¬ (lay v.t (v.ru k) b < 0 ∧ (fcl (lay v.t (v.ru k)) b : Int) = i)) (fun e z => KM z.2.2 v tr ra ∧ MFz h0 z.2.2 ∧ (∀ j, j ≠ 22 → j ≠ 35 → j ≠ 36 → zI z.2.2 76 j = zI h0 76 j) ∧ ((e = 1 ∧ ∃ n, ldV v x i = some n ∧ z.2.1 = iI n) ∨ (e = 2 ∧ ldV v x i = none))) ?_ ?_ (by omega) (s := (iI 0, iI 0, h0)) ⟨h0, rfl, m, MFz.rf, fun _ _ _ _ => rfl, fun b hb => by omega⟩
    · obtain ⟨e, z, l1, l2, l3, l4, l5⟩ := this
      exact ⟨e + 1, z.1, z.2.1, z.2.2, l1, l2, l3, l4, l5⟩
    · intro a z ha ⟨h1, ez, k1, k2, k3, k4⟩
      subst ez
      have s1 := k1.1
      have i0 := isRule_1 ok k1 p
      have h17 := ((k1.2.2.2.2.2 on).1).1.2.2.2.2.1.1
      obtain ⟨h2, q1, q2, q3⟩ := fX12_laysNow_eq tok (k1.2.2.2.2.2 on).1 hk ha
      have m2 := k1.mr on q2.r q3
      have hfl := fcl_le (lay v.t (v.ru k)) a
      have kj : ∀ j, j ≠ 22 → j ≠ 35 → j ≠ 36 → zI h2 76 j = zI h0 76 j := fun j a1 a2 a3 => by rw [q2.2 j a1 a2 a3]; exact k3 j a1 a2 a3
      rw [ek] at i0 ⊢
      show (∃ s', bX12_led_10 g 76 (iI k) (iI i) (iI (fcl (lay v.t (v.ru k)) a : Nat)) (iI a) h1 = some (0, s') ∧ _) ∨ (∃ e s', bX12_led_10 g 76 (iI k) (iI i) (iI (fcl (lay v.t (v.ru k)) a : Nat)) (iI a) h1 = some (e + 1, s') ∧ _)
      rcases hlb a ha with hl | ⟨hl, hl2⟩
      · have hneg : lay v.t (v.ru k) a < 0 := by omega
        rw [hl] at q1
        by_cases c : (fcl (lay v.t (v.ru k)) a : Int) = i
        · have hz : ldV v (k : Int) i = some a := by
            have mono : ∀ b d, fcl (lay v.t (v.ru k)) b ≤ fcl (lay v.t (v.ru k)) (b + d) := fun b d => by
              induction d with
              | zero => exact Nat.le_refl _
              | succ d ih => show _ ≤ fcl _ (b + d + 1); rw [fcl]; omega
            have h4 := mono (a + 1) (tH v.t - (a + 1))
            rw [show a + 1 + (tH v.t - (a + 1)) = tH v.t by omega, fcl, if_pos hneg] at h4
            have hin : i.toNat = fcl (lay v.t (v.ru k)) a := by omega
            unfold ldV
            rw [Int.toNat_natCast, if_pos ⟨by omega, by rw [← ek]; exact p.2, by omega, by omega⟩, hin]
            refine congrArg some (zfst_eq (by omega) (fun b hb => ?_) (fun _ => ?_))
            · unfold flP
              cases q : decide (lay v.t (v.ru k) b < 0)
              · rfl
              · rw [Bool.true_and]
                refine decide_eq_false (fun z => k4 b hb ⟨of_decide_eq_true q, by omega⟩)
            · unfold flP
              rw [decide_eq_true hneg, decide_eq_true rfl]
              rfl
          refine Or.inr ⟨0, (iI (fcl (lay v.t (v.ru k)) a : Nat), iI a, h2), ?_, m2, k2.tr q2.z, kj, Or.inl ⟨rfl, a, hz, rfl⟩⟩
          generalize fcl (lay v.t (v.ru k)) a = w at *
          unfold bX12_led_10
          simp (maxSteps := 1000000) (disch := (first | assumption | exact ne_b rfl | omega)) only [↓reduceIte, ↓zlet_eq, ↓bdR_sI, ↓bdR_sJ, ↓bdR_aI, zc2_some, Option.bind_some, ↓si_m1, ↓si_m2, ↓si_m3, iI_lit, iI_add, iI_sub, iI_mul, leT, leF, ltT, ltF, eqT, eqF, zinT, clI, Int.toNat_natCast, Int.reduceToNat, tN1, tNa, tN0, tNm, if_pos, if_neg, zI_sI, zI_sJ, zI_sR, zJ_sI, zJ_sJ, zJ_sR, zR_sI, zR_sJ, zR_sR, zK_sI, zK_sJ, zK_sR, zL_sI, zL_sJ, zL_sR, zI_aI, zJ_aI, zR_aI, zK_aI, zL_aI, z2_at, z2_a, z2_k, z1_self, z1_ne, true_and, and_true, bIt, bIf, Bool.false_eq_true, Bool.true_eq_false, eq_self, not_true_eq_false, not_false_eq_true, ↓zc_of i0, h17, ↓zc_of q1]
        · refine Or.inl ⟨(iI (fcl (lay v.t (v.ru k)) (a + 1) : Nat), iI ((a + 1 : Nat) : Int), h2), ?_, h2, rfl, m2, k2.tr q2.z, kj, fun b hb => ?_⟩
          · rw [fcl, if_pos hneg]
            generalize fcl (lay v.t (v.ru k)) a = w at *
            unfold bX12_led_10
            simp (maxSteps := 1000000) (disch := (first | assumption | exact ne_b rfl | omega)) only [↓reduceIte, ↓zlet_eq, ↓bdR_sI, ↓bdR_sJ, ↓bdR_aI, zc2_some, Option.bind_some, ↓si_m1, ↓si_m2, ↓si_m3, iI_lit, iI_add, iI_sub, iI_mul, leT, leF, ltT, ltF, eqT, eqF, zinT, clI, Int.toNat_natCast, Int.reduceToNat, tN1, tNa, tN0, tNm, if_pos, if_neg, zI_sI, zI_sJ, zI_sR, zJ_sI, zJ_sJ, zJ_sR, zR_sI, zR_sJ, zR_sR, zK_sI, zK_sJ, zK_sR, zL_sI, zL_sJ, zL_sR, zI_aI, zJ_aI, zR_aI, zK_aI, zL_aI, z2_at, z2_a, z2_k, z1_self, z1_ne, true_and, and_true, bIt, bIf, Bool.false_eq_true, Bool.true_eq_false, eq_self, not_true_eq_false, not_false_eq_true, ↓zc_of i0, h17, ↓zc_of q1]
            all_goals rfl
          · by_cases q : b = a
            · rw [q]; exact fun z => c z.2
            · exact k4 b (by omega)
      · have hne : ¬ lay v.t (v.ru k) a = -2 := by omega
        refine Or.inl ⟨(iI (fcl (lay v.t (v.ru k)) (a + 1) : Nat), iI ((a + 1 : Nat) : Int), h2), ?_, h2, rfl, m2, k2.tr q2.z, kj, fun b hb => ?_⟩
        · rw [fcl, if_neg (by omega)]
          generalize fcl (lay v.t (v.ru k)) a = w at *
          unfold bX12_led_10
          simp (maxSteps := 1000000) (disch := (first | assumption | exact ne_b rfl | omega)) only [↓reduceIte, ↓zlet_eq, ↓bdR_sI, ↓bdR_sJ, ↓bdR_aI, zc2_some, Option.bind_some, ↓si_m1, ↓si_m2, ↓si_m3, iI_lit, iI_add, iI_sub, iI_mul, leT, leF, ltT, ltF, eqT, eqF, zinT, clI, Int.toNat_natCast, Int.reduceToNat, tN1, tNa, tN0, tNm, if_pos, if_neg, zI_sI, zI_sJ, zI_sR, zJ_sI, zJ_sJ, zJ_sR, zR_sI, zR_sJ, zR_sR, zK_sI, zK_sJ, zK_sR, zL_sI, zL_sJ, zL_sR, zI_aI, zJ_aI, zR_aI, zK_aI, zL_aI, z2_at, z2_a, z2_k, z1_self, z1_ne, true_and, and_true, bIt, bIf, Bool.false_eq_true, Bool.true_eq_false, eq_self, not_true_eq_false, not_false_eq_true, ↓zc_of i0, h17, ↓zc_of q1]
          all_goals rfl
        · by_cases q : b = a
          · rw [q]; exact fun z => by omega
          · exact k4 b (by omega)
    · intro z ⟨h1, ez, k1, k2, k3, k4⟩
      subst ez
      have i0 := isRule_1 ok k1 p
      have h17 := ((k1.2.2.2.2.2 on).1).1.2.2.2.2.1.1
      have hz : ldV v x i = none := by
        unfold ldV
        rw [if_neg]
        rw [hkn]
        intro z
        have hex := flP_ex (ρ := lay v.t (v.ru k)) (n := i.toNat) (H := tH v.t) (by omega)
        have ht := zfst_at hex
        generalize zfst (flP (lay v.t (v.ru k)) i.toNat) (tH v.t) = b at *
        unfold flP at ht
        rw [Bool.and_eq_true_iff] at ht
        have h1 := of_decide_eq_true ht.1
        have h2 := of_decide_eq_true ht.2
        exact k4 b hex ⟨h1, by omega⟩
      refine ⟨1, (iI (fcl (lay v.t (v.ru k)) (tH v.t) : Nat), iI (tH v.t), h1), ?_, k1, k2, k3, Or.inr ⟨rfl, hz⟩⟩
      show bX12_led_10 g 76 (iI x) (iI i) (iI (fcl (lay v.t (v.ru k)) (tH v.t) : Nat)) (iI (tH v.t)) h1 = _
      unfold bX12_led_10
      simp (maxSteps := 1000000) (disch := (first | assumption | exact ne_b rfl | omega)) only [↓reduceIte, ↓zlet_eq, ↓bdR_sI, ↓bdR_sJ, ↓bdR_aI, zc2_some, Option.bind_some, ↓si_m1, ↓si_m2, ↓si_m3, iI_lit, iI_add, iI_sub, iI_mul, leT, leF, ltT, ltF, eqT, eqF, zinT, clI, Int.toNat_natCast, Int.reduceToNat, tN1, tNa, tN0, tNm, if_pos, if_neg, zI_sI, zI_sJ, zI_sR, zJ_sI, zJ_sJ, zJ_sR, zR_sI, zR_sJ, zR_sR, zK_sI, zK_sJ, zK_sR, zL_sI, zL_sJ, zL_sR, zI_aI, zJ_aI, zR_aI, zK_aI, zL_aI, z2_at, z2_a, z2_k, z1_self, z1_ne, true_and, and_true, bIt, bIf, Bool.false_eq_true, Bool.true_eq_false, eq_self, not_true_eq_false, not_false_eq_true, ↓zc_of i0, h17]
  · have i0 := isRule_0 ok m hx p
    refine ⟨2, iI 0, iI 0, h0, ?_, m, MFz.rf, fun _ _ _ _ => rfl, Or.inr ⟨rfl, by unfold ldV; rw [if_neg (fun z => p ⟨z.1, z.2.1⟩)]⟩⟩
    refine lp_e (N := zB - 1) (e := 1) (body := fun q : Int32 × Int32 × Zh => bX12_led_10 g 76 (iI x) (iI i) q.1 q.2.1 q.2.2) (s := (iI 0, iI 0, h0)) ?_
    show bX12_led_10 g 76 (iI x) (iI i) (iI 0) (iI 0) h0 = _
    unfold bX12_led_10
    simp (maxSteps := 1000000) (disch := (first | assumption | exact ne_b rfl | omega)) only [↓reduceIte, ↓zlet_eq, ↓bdR_sI, ↓bdR_sJ, ↓bdR_aI, zc2_some, Option.bind_some, ↓si_m1, ↓si_m2, ↓si_m3, iI_lit, iI_add, iI_sub, iI_mul, leT, leF, ltT, ltF, eqT, eqF, zinT, clI, Int.toNat_natCast, Int.reduceToNat, tN1, tNa, tN0, tNm, if_pos, if_neg, zI_sI, zI_sJ, zI_sR, zJ_sI, zJ_sJ, zJ_sR, zR_sI, zR_sJ, zR_sR, zK_sI, zK_sJ, zK_sR, zL_sI, zL_sJ, zL_sR, zI_aI, zJ_aI, zR_aI, zK_aI, zL_aI, z2_at, z2_a, z2_k, z1_self, z1_ne, true_and, and_true, bIt, bIf, Bool.false_eq_true, Bool.true_eq_false, eq_self, not_true_eq_false, not_false_eq_true, ↓zc_of i0]
theorem led_m {h : Zh} {v : Vw} {tr ra : Nat} {x i : Int} (ok : VOK v) (m : KM h v tr ra) (hx : iR x) (hi : iR i) : ∃ h2, fX12_led 76 (iI x) (iI i) h = some (iI (match ldV v x i with | some n => (n : Int) | none => 0), h2) ∧ KM h2 v tr ra ∧ MFz h h2 ∧ zI h2 76 0 = iI (match ldV v x i with | some _ => 0 | none => 1) ∧ zI h2 76 1 = zI h 76 1 ∧ zI h2 76 2 = zI h 76 2 := by
  have s := m.1
  have m0 := m.s76 (j := 0) (x := iI 0) (by decide)
  obtain ⟨e, y, z, h1, l1, l2, l3, l4, l5⟩ := led_10 (g := h) ok m0 hx hi
  rcases l5 with ⟨l5, n, l6, l7⟩ | ⟨l5, l6⟩
  · subst l5
    rw [l6]
    refine ⟨h1, ?_, l2, (MFz.sI _ _).tr l3, ?_, ?_, ?_⟩
    · unfold fX12_led
      rw [zlet_eq, if_pos (sK76 s), zlet_eq]
      refine (lp_bd l1).trans ?_
      show kX12_led_10 h 76 1 y z h1 = _
      unfold kX12_led_10
      rw [if_pos rfl, l7]
    · rw [l4 0 (by decide) (by decide) (by decide), zI_sI, z2_at]
    · rw [l4 1 (by decide) (by decide) (by decide), zI_sI, z2_k _ _ _ (by decide)]
    · rw [l4 2 (by decide) (by decide) (by decide), zI_sI, z2_k _ _ _ (by decide)]
  · subst l5
    rw [l6]
    refine ⟨zsI h1 76 0 (iI 1), ?_, l2.s76 (by decide), ((MFz.sI _ _).tr l3).tr (MFz.sI _ _), by rw [zI_sI, z2_at], ?_, ?_⟩
    · unfold fX12_led
      rw [zlet_eq, if_pos (sK76 s), zlet_eq]
      refine (lp_bd l1).trans ?_
      show kX12_led_10 h 76 2 y z h1 = _
      unfold kX12_led_10
      rw [if_neg (by decide), zlet_eq]
      rfl
    · rw [zI_sI, z2_k _ _ _ (by decide), l4 1 (by decide) (by decide) (by decide), zI_sI, z2_k _ _ _ (by decide)]
    · rw [zI_sI, z2_k _ _ _ (by decide), l4 2 (by decide) (by decide) (by decide), zI_sI, z2_k _ _ _ (by decide)]
