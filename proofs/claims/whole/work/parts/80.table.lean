/-! the least table, as both must find it; what a rule lays -/
/-- the rows that fit a hand: places of it that can be shown, in an order -/
def fitP (t : Tk) (x r : Nat) : Prop := ∃ p : Nat → Nat, vld (tk t) (tsh t) (!anyO t) p ∧ r / tT t = rowN (tn t) (fun i => hc t x (p i)) (tsh t)
theorem pos_ok {t : Tk} (tok : Tok t) {x : Nat} (hx : x < tH t) {p : Nat → Nat} (hp : vld (tk t) (tsh t) (!anyO t) p) : dst (fun i => hc t x (p i)) (tsh t) ∧ ∀ i, i < tsh t → hc t x (p i) < tn t := by
  have hv := hc_vld tok hx
  refine ⟨fun i j h1 h2 e => ?_, fun i hi => hv.1 _ (hp.1 i hi)⟩
  have hd := hp.dst i j h1 h2
  have a := hp.1 i (by omega)
  have b := hp.1 j h2
  rcases Nat.lt_trichotomy (p i) (p j) with c | c | c
  · exact hv.dst _ _ c b e
  · exact hd c
  · exact hv.dst _ _ c a e.symm
theorem fitP_lt {t : Tk} (tok : Tok t) {x r : Nat} (hx : x < tH t) (h : fitP t x r) : r < tR t := by
  obtain ⟨bn4, bn12, bu1, bu4, bnu, bk2, bk5, bkn, bp1, bp2, bpk, bH, bsp, bs1, bs4, bT1, bT16, bR1, bR2, bH1, bff, bff1⟩ := tok.b
  obtain ⟨p, hp, e⟩ := h
  obtain ⟨d1, d2⟩ := pos_ok tok hx hp
  have h3 := rowN_lt (tsh t) d1 d2
  rw [← e] at h3
  unfold tR
  have := Nat.div_add_mod r (tT t)
  have h4 := Nat.mod_lt r (show tT t > 0 by omega)
  have h5 : tT t * (r / tT t + 1) ≤ tT t * ff (tn t) (tsh t) := Nat.mul_le_mul_left _ h3
  rw [Nat.mul_add, Nat.mul_one] at h5
  rw [Nat.mul_comm (ff (tn t) (tsh t))]
  omega
def isTb (t : Tk) (M : Nat → Nat) : Prop := (∀ x, x < tH t → fitP t x (M x)) ∧ ∀ x y, x < y → y < tH t → M x ≠ M y
def Lst (t : Tk) (M : Nat → Nat) : Prop := isTb t M ∧ ∀ x r, x < tH t → r < M x → ∀ M2, isTb t M2 → (∀ y, y < x → M2 y = M y) → M2 x ≠ r
theorem Lst.un {t : Tk} {M M2 : Nat → Nat} (a : Lst t M) (b : Lst t M2) : ∀ x, x < tH t → M x = M2 x := by
  intro x
  induction x using Nat.strongRecOn with
  | _ x ih =>
    intro hx
    have h1 : ∀ y, y < x → M y = M2 y := fun y hy => ih y hy (by omega)
    rcases Nat.lt_trichotomy (M x) (M2 x) with c | c | c
    · exact absurd rfl (b.2 x (M x) hx c M a.1 h1)
    · exact c
    · exact absurd rfl (a.2 x (M2 x) hx c M2 b.1 (fun y hy => (h1 y hy).symm))
noncomputable def tabR (t : Tk) (x : Nat) : Int := if tH t ≤ 300 then Classical.epsilon (fun v : Int => (∃ M, Lst t M ∧ v = (M x : Nat)) ∨ ((¬ ∃ M, Lst t M) ∧ v = -2)) else -2
theorem tabR_some {t : Tk} {M : Nat → Nat} (h : Lst t M) (hH : tH t ≤ 300) {x : Nat} (hx : x < tH t) : tabR t x = (M x : Nat) := by
  unfold tabR
  rw [if_pos hH]
  have := Classical.epsilon_spec (p := fun v : Int => (∃ M, Lst t M ∧ v = (M x : Nat)) ∨ ((¬ ∃ M, Lst t M) ∧ v = -2)) ⟨(M x : Nat), Or.inl ⟨M, h, rfl⟩⟩
  rcases this with ⟨M2, h2, e⟩ | ⟨h2, -⟩
  · rw [e, h.un h2 x hx]
  · exact absurd ⟨M, h⟩ h2
theorem tabR_none {t : Tk} (h : ¬ ∃ M, Lst t M) (x : Nat) : tabR t x = -2 := by
  unfold tabR
  split
  · have := Classical.epsilon_spec (p := fun v : Int => (∃ M, Lst t M ∧ v = (M x : Nat)) ∨ ((¬ ∃ M, Lst t M) ∧ v = -2)) ⟨-2, Or.inr ⟨h, rfl⟩⟩
    rcases this with ⟨M2, h2, e⟩ | ⟨-, e⟩
    · exact absurd ⟨M2, h2⟩ h
    · exact e
  · rfl
theorem tabR_big {t : Tk} (h : ¬ tH t ≤ 300) (x : Nat) : tabR t x = -2 := by
  unfold tabR
  rw [if_neg h]
/-- what a rule lays; below 20 words, 20 suit, 21 table -/
noncomputable def lay (t : Tk) (kind x : Nat) : Int := if kind = 21 then tabR t x else if kind = 20 then layS t x else layW t x kind
theorem layW_lt {t : Tk} (tok : Tok t) {x : Nat} (hx : x < tH t) (w : Nat) : layW t x w < tR t := by
  obtain ⟨d1, d2⟩ := shw_ok tok hx (w / 5)
  exact rwT_lt tok d1 d2
theorem layS_b {t : Tk} (tok : Tok t) {x : Nat} (hx : x < tH t) : layS t x = -2 ∨ (0 ≤ layS t x ∧ layS t x < tR t) := by
  obtain ⟨bn4, bn12, bu1, bu4, bnu, bk2, bk5, bkn, bp1, bp2, bpk, bH, bsp, bs1, bs4, bT1, bT16, bR1, bR2, bH1, bff, bff1⟩ := tok.b
  unfold layS
  by_cases c : anyO t = true ∧ tp t = 1 ∧ si t x < tk t
  · rw [if_pos c]
    obtain ⟨e, hp, c2⟩ := c
    have hst : tst t = false := by unfold anyO at e; cases h1 : tst t <;> simp_all
    obtain ⟨o1, o2, o3, o4⟩ := suit_ok tok hx hst c2
    unfold layT
    have hb1 : (if 2 * (hc t x (si t x + 1 + sj t x (si t x)) - hc t x (si t x)) ≤ rkN t then hc t x (si t x) else hc t x (si t x + 1 + sj t x (si t x))) = hc t x (si t x) ∨ (if 2 * (hc t x (si t x + 1 + sj t x (si t x)) - hc t x (si t x)) ≤ rkN t then hc t x (si t x) else hc t x (si t x + 1 + sj t x (si t x))) = hc t x (si t x + 1 + sj t x (si t x)) := by
      by_cases q : 2 * (hc t x (si t x + 1 + sj t x (si t x)) - hc t x (si t x)) ≤ rkN t
      · exact Or.inl (if_pos q)
      · exact Or.inr (if_neg q)
    generalize (if 2 * (hc t x (si t x + 1 + sj t x (si t x)) - hc t x (si t x)) ≤ rkN t then hc t x (si t x) else hc t x (si t x + 1 + sj t x (si t x))) = bs at hb1 ⊢
    generalize (if 2 * (hc t x (si t x + 1 + sj t x (si t x)) - hc t x (si t x)) ≤ rkN t then hc t x (si t x + 1 + sj t x (si t x)) - hc t x (si t x) else rkN t - (hc t x (si t x + 1 + sj t x (si t x)) - hc t x (si t x))) - 1 = od
    by_cases hod : od < ff (tsh t - 1) (tsh t - 1)
    · rw [if_pos hod]
      right
      have hb2 : bs < tn t := by omega
      obtain ⟨d1, d2⟩ := suq_ok tok hx (show hc t x (si t x) ≠ hc t x (si t x + 1 + sj t x (si t x)) by omega) ⟨_, c2, rfl⟩ ⟨_, o1, rfl⟩ hb1 hb2 hp
      have hd1 : dst (suq t x (hc t x (si t x)) (hc t x (si t x + 1 + sj t x (si t x))) bs (tk t)) (1 + (tsh t - 1)) := by rw [show 1 + (tsh t - 1) = tsh t by omega]; exact d1
      obtain ⟨a1, a2⟩ := arA_ok (n := tn t) (show tsh t - 1 ≤ 5 by omega) hod hd1 (fun y hy => d2 y (by omega)) (tsh t - 1) (Nat.le_refl _)
      rw [show 1 + (tsh t - 1) = tsh t by omega] at a1 a2
      have h3 := rowN_lt (tsh t) a1 a2
      have h4 := Nat.mul_lt_mul_of_pos_right h3 (show 0 < tT t by omega)
      refine ⟨Int.natCast_nonneg _, ?_⟩
      show _ < ((ff (tn t) (tsh t) * tT t : Nat) : Int)
      exact Int.ofNat_lt.mpr h4
    · rw [if_neg hod]
      exact Or.inl rfl
  · rw [if_neg c]
    exact Or.inl rfl
theorem tabR_b {t : Tk} (tok : Tok t) {x : Nat} (hx : x < tH t) : tabR t x = -2 ∨ (0 ≤ tabR t x ∧ tabR t x < tR t) := by
  by_cases h : ∃ M, Lst t M
  · obtain ⟨M, h⟩ := h
    by_cases hH : tH t ≤ 300
    · rw [tabR_some h hH hx]
      have := fitP_lt tok hx (h.1.1 x hx)
      right
      omega
    · exact Or.inl (tabR_big hH x)
  · exact Or.inl (tabR_none h x)
theorem lay_b {t : Tk} (tok : Tok t) {kind x : Nat} (hx : x < tH t) : lay t kind x = -2 ∨ (0 ≤ lay t kind x ∧ lay t kind x < tR t) := by
  unfold lay
  split
  · exact tabR_b tok hx
  · split
    · exact layS_b tok hx
    · have := layW_lt tok hx kind
      right
      omega
