/-! the model's pairing of all hands -/
def cnS (p : Nat → Bool) : Nat → Nat
  | 0 => 0
  | x + 1 => cnS p x + (if p x = true then 1 else 0)
theorem cnS_congr {p q : Nat → Bool} : ∀ {x : Nat}, (∀ y, y < x → p y = q y) → cnS p x = cnS q x := by
  intro x
  induction x with
  | zero => intro _; rfl
  | succ x ih =>
    intro hpq
    show cnS p x + _ = cnS q x + _
    rw [ih (fun y hy => hpq y (by omega)), hpq x (by omega)]
theorem cnS_le {p : Nat → Bool} : ∀ x : Nat, cnS p x ≤ x := by
  intro x
  induction x with
  | zero => exact Nat.le_refl _
  | succ x ih =>
    show cnS p x + _ ≤ _
    split <;> omega
theorem cnS_all {p : Nat → Bool} : ∀ {x : Nat}, cnS p x = x → ∀ y, y < x → p y = true := by
  intro x
  induction x with
  | zero => intro _ y hy; omega
  | succ x ih =>
    intro hx y hy
    have hx' : cnS p x + (if p x = true then 1 else 0) = x + 1 := hx
    have := cnS_le (p := p) x
    by_cases c : p x = true
    · rw [if_pos c] at hx'
      by_cases c2 : y = x
      · rw [c2]; exact c
      · exact ih (by omega) y (by omega)
    · rw [if_neg c] at hx'; omega
theorem cnS_full {p : Nat → Bool} : ∀ {x : Nat}, (∀ y, y < x → p y = true) → cnS p x = x := by
  intro x
  induction x with
  | zero => intro _; rfl
  | succ x ih =>
    intro hp
    show cnS p x + _ = _
    rw [ih (fun y hy => hp y (by omega)), if_pos (hp x (by omega))]
def PNx (h : Zh) (t : Tk) (x k : Nat) : Prop := ∃ pr ow f c D, PM h t pr ow f c (tH t) ∧ Cns (tH t) (fcr t (crC t)) pr ow ∧ Dn h t D ∧ Cls (tH t) 0 (fcr t (crC t)) ow (fun y => D y = true) ∧ c ≤ x ∧ (∀ y, x ≤ y → pr y = none) ∧ (∀ y, y < x → (pr y).isSome = true ∨ D y = true) ∧ (∀ y, D y = true → y < x) ∧ (∀ y, D y = true → ∃ z, z < x ∧ pr z = none ∧ D z = true) ∧ k = cnS (fun y => (pr y).isSome) x
theorem PN_run {g h0 : Zh} {t : Tk} {tr : Nat} (tok : Tok t) (hH : tH t ≤ 2000) (mx : MX h0 t tr) (p0 : PNx h0 t 0 0) : ∃ k x' h', lp (fun q : Int32 × Int32 × Zh => bX12_pairsNow_38 g 76 q.1 q.2.1 q.2.2) zB (iI 0, iI 0, h0) = some (1, (iI (k : Nat), x', h')) ∧ Fm [76, 80, 82, 86, 87, 88, 89, 90, 91] h0 h' ∧ (∀ j, j ≠ 22 → zI h' 76 j = zI h0 76 j) ∧ PNx h' t (tH t) k := by
  obtain ⟨bn4, bn12, bu1, bu4, bnu, bk2, bk5, bkn, bp1, bp2, bpk, bH, bsp, bs1, bs4, bT1, bT16, bR1, bR2, bH1, bff, bff1⟩ := tok.b
  have mS : ∀ x, x ∈ [76, 80, 82, 86, 87, 88, 89, 90, 91] → x < 101 ∧ x ≠ 78 ∧ x ≠ 83 := by simp
  have := lp_cnt (body := fun q : Int32 × Int32 × Zh => bX12_pairsNow_38 g 76 q.1 q.2.1 q.2.2) (tH t) (fun x z => ∃ k h, z = ((iI (k : Nat), iI (x : Int), h) : Int32 × Int32 × Zh) ∧ Fm [76, 80, 82, 86, 87, 88, 89, 90, 91] h0 h ∧ (∀ j, j ≠ 22 → zI h 76 j = zI h0 76 j) ∧ PNx h t x k) (fun e z => e = 1 ∧ ∃ k x' h, z = ((iI (k : Nat), x', h) : Int32 × Int32 × Zh) ∧ Fm [76, 80, 82, 86, 87, 88, 89, 90, 91] h0 h ∧ (∀ j, j ≠ 22 → zI h 76 j = zI h0 76 j) ∧ PNx h t (tH t) k) ?_ ?_ (by omega) (s := (iI 0, iI 0, h0)) ⟨0, h0, rfl, Fm.rf, fun _ _ => rfl, p0⟩
  · obtain ⟨e, z, l1, l2, k, x', h, l3, l4, l5, l6⟩ := this
    have e0 : e = 0 := by omega
    subst e0
    subst l3
    exact ⟨k, x', h, l1, l4, l5, l6⟩
  · intro x z hx ⟨k, h, ez, fm, k1, pn⟩
    subst ez
    refine Or.inl ?_
    show ∃ s', bX12_pairsNow_38 g 76 (iI k) (iI x) h = some (0, s') ∧ _
    have mx1 := mx.fm fm k1 mS
    have h17 : zI h 76 17 = iI (tH t) := mx1.2.2.2.2.1.1
    obtain ⟨pr, ow, f, c, D, a1, a2, a3, a4, a5, a6, a7, a8, a9, a10⟩ := pn
    have hpx := a6 x (Nat.le_refl _)
    have hDx : D x = false := by
      cases e : D x
      · rfl
      · have := a8 x e; omega
    have hk := cnS_le (p := fun y => (pr y).isSome) x
    have hkx : k ≤ x := by rw [a10]; exact hk
    obtain ⟨v, h', q1, q2, q3, q4, q5⟩ := fX12_goesOnFrom_eq (st := x) (s := 0) (bt := -1) (ex := tH t) tok hH mx1 (by omega) (by omega) (fun r hr => by omega) (by omega) a2 a1 a3 a4 hx (by omega) hDx (by omega) (a6 _ (by omega)) (by omega)
    have q1' : fX12_goesOnFrom 76 (iI x) (iI 0) (iI (-1)) h = some (iI (bI v), h') := q1
    cases v
    · obtain ⟨w1, D', w2, w3, w4, w5, w6, w7⟩ := q5 rfl
      refine ⟨(iI k, iI ((x + 1 : Nat) : Int), h'), ?_, k, h', rfl, fm.tr q2, fun j hj => by rw [q3 j hj, k1 j hj], pr, ow, f, c, D', w1, a2, w6 rfl, w2, by omega, fun y hy => a6 y (by omega), fun y hy => ?_, fun y hy => ?_, fun y hy => ⟨x, by omega, hpx, w3⟩, ?_⟩
      · unfold bX12_pairsNow_38
        have q1'' : fX12_goesOnFrom 76 (iI x) (iI 0) (iI (-1)) h = some (iI 0, h') := q1'
        clear q1 q4 q5 a1 a2 a3 a4
        simp (maxSteps := 1000000) (disch := (first | assumption | exact ne_b rfl | omega)) only [↓reduceIte, ↓zlet_eq, ↓bdR_sI, ↓bdR_sJ, ↓bdR_aI, zc2_some, Option.bind_some, ↓si_m1, ↓si_m2, ↓si_m3, iI_lit, iI_add, iI_sub, iI_mul, leT, leF, ltT, ltF, eqT, eqF, zinT, clI, Int.toNat_natCast, Int.reduceToNat, tN1, tNa, tN0, tNm, if_pos, if_neg, zI_sI, zI_sJ, zI_sR, zJ_sI, zJ_sJ, zJ_sR, zR_sI, zR_sJ, zR_sR, zK_sI, zK_sJ, zK_sR, zL_sI, zL_sJ, zL_sR, zI_aI, zJ_aI, zR_aI, zK_aI, zL_aI, z2_at, z2_a, z2_k, z1_self, z1_ne, true_and, and_true, bIt, bIf, Bool.false_eq_true, Bool.true_eq_false, eq_self, not_true_eq_false, not_false_eq_true, h17, ↓zc_of q1'']
        all_goals rfl
      · by_cases c2 : y = x
        · rw [c2]; exact Or.inr w3
        · exact (a7 y (by omega)).imp id (w4 y)
      · rcases w5 y hy with z | z | z
        · have := a8 y z; omega
        · omega
        · by_cases c2 : y < x
          · omega
          · rw [a6 y (by omega)] at z; cases z
      · show k = cnS (fun y => (pr y).isSome) x + _
        rw [if_neg (by show ¬ (pr x).isSome = true; rw [hpx]; decide), ← a10]
        rfl
    · obtain ⟨w1, pr', ow', f', c', w2, w3, w4, w5, w6, w7, w8, w9⟩ := q4 rfl
      have cn' := w4 hpx
      have hsome : ∀ y, y < x → (pr' y).isSome = (pr y).isSome := fun y hy => w8 y (by omega)
      refine ⟨(iI ((k + 1 : Nat) : Int), iI ((x + 1 : Nat) : Int), h'), ?_, k + 1, h', rfl, fm.tr q2, fun j hj => by rw [q3 j hj, k1 j hj], pr', ow', f', c', D, w2, cn', w1, ?_, by omega, fun y hy => ?_, fun y hy => ?_, fun y hy => ?_, fun y hy => ?_, ?_⟩
      · unfold bX12_pairsNow_38
        have q1'' : fX12_goesOnFrom 76 (iI x) (iI 0) (iI (-1)) h = some (iI 1, h') := q1'
        clear q1 q4 q5 a1 a2 a3 a4
        simp (maxSteps := 1000000) (disch := (first | assumption | exact ne_b rfl | omega)) only [↓reduceIte, ↓zlet_eq, ↓bdR_sI, ↓bdR_sJ, ↓bdR_aI, zc2_some, Option.bind_some, ↓si_m1, ↓si_m2, ↓si_m3, iI_lit, iI_add, iI_sub, iI_mul, leT, leF, ltT, ltF, eqT, eqF, zinT, clI, Int.toNat_natCast, Int.reduceToNat, tN1, tNa, tN0, tNm, if_pos, if_neg, zI_sI, zI_sJ, zI_sR, zJ_sI, zJ_sJ, zJ_sR, zR_sI, zR_sJ, zR_sR, zK_sI, zK_sJ, zK_sR, zL_sI, zL_sJ, zL_sR, zI_aI, zJ_aI, zR_aI, zK_aI, zL_aI, z2_at, z2_a, z2_k, z1_self, z1_ne, true_and, and_true, bIt, bIf, Bool.false_eq_true, Bool.true_eq_false, eq_self, not_true_eq_false, not_false_eq_true, h17, ↓zc_of q1'']
        all_goals rfl
      · intro y hy
        obtain ⟨b1, b2, b3⟩ := a4 y hy
        refine ⟨b1, b2, fun r hr => ?_⟩
        obtain ⟨z, z1', z2'⟩ := b3 r hr
        have hDz : D z = true := z2'.resolve_left (by omega)
        have hz := a2.2 r z z1'
        exact ⟨z, (cn'.1 z r hz.1 (by rw [w7 z hDz]; exact hz.2)).2, Or.inr hDz⟩
      · have := w8 y (by omega)
        rw [a6 y (by omega)] at this
        cases e : pr' y
        · rfl
        · rw [e] at this; cases this
      · by_cases c2 : y = x
        · rw [c2]; exact Or.inl w9
        · rw [w8 y c2]; exact a7 y (by omega)
      · have := a8 y hy; omega
      · obtain ⟨z, z1', z2', z3'⟩ := a9 y hy
        exact ⟨z, by omega, by rw [w7 z z3']; exact z2', z3'⟩
      · show k + 1 = cnS (fun y => (pr' y).isSome) x + _
        rw [if_pos w9, cnS_congr (q := fun y => (pr y).isSome) hsome, ← a10]
  · intro z ⟨k, h, ez, fm, k1, pn⟩
    subst ez
    have mx1 := mx.fm fm k1 mS
    have h17 : zI h 76 17 = iI (tH t) := mx1.2.2.2.2.1.1
    refine ⟨0, (iI k, iI (tH t), h), ?_, rfl, k, _, h, rfl, fm, k1, pn⟩
    show bX12_pairsNow_38 g 76 (iI k) (iI (tH t)) h = _
    unfold bX12_pairsNow_38
    simp (maxSteps := 1000000) (disch := (first | assumption | exact ne_b rfl | omega)) only [↓reduceIte, ↓zlet_eq, ↓bdR_sI, ↓bdR_sJ, ↓bdR_aI, zc2_some, Option.bind_some, ↓si_m1, ↓si_m2, ↓si_m3, iI_lit, iI_add, iI_sub, iI_mul, leT, leF, ltT, ltF, eqT, eqF, zinT, clI, Int.toNat_natCast, Int.reduceToNat, tN1, tNa, tN0, tNm, if_pos, if_neg, zI_sI, zI_sJ, zI_sR, zJ_sI, zJ_sJ, zJ_sR, zR_sI, zR_sJ, zR_sR, zK_sI, zK_sJ, zK_sR, zL_sI, zL_sJ, zL_sR, zI_aI, zJ_aI, zR_aI, zK_aI, zL_aI, z2_at, z2_a, z2_k, z1_self, z1_ne, true_and, and_true, bIt, bIf, Bool.false_eq_true, Bool.true_eq_false, eq_self, not_true_eq_false, not_false_eq_true, h17]
