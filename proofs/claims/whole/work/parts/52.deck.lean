/-! counting: the class's and the model's -/
def pch (n : Int) : Nat → Int
  | 0 => 1
  | k + 1 => pch n k * (n - k) / (k + 1)
theorem pch_ok : ∀ n : Nat, n < 201 → ∀ k : Nat, k < 6 → 0 ≤ pch n k ∧ pch n k ≤ 3000000000 ∧ 0 ≤ pch n k * ((n : Int) - k) ∧ pch n k * ((n : Int) - k) < 9000000000000 ∧ pch n k = pfall n k / pfall k k ∧ pfall k k ≠ 0 ∧ 0 ≤ pfall n k ∧ pfall n k < 900000000000 ∧ 0 < pfall k k ∧ pfall k k < 1000 := by decide +kernel
theorem fX0_choose_eq {n k : Nat} (hn : n < 201) (hk : k < 6) (h : Zh) : fX0_choose (iI n) (iI k) h = some (jI (pch n k), h) := by
  unfold fX0_choose
  rw [zlet_eq]
  refine (lp_bd (lp_for (st := fun i => ((jI (pch n i), iI i, h) : Int64 × Int32 × Zh)) (e := 0) (s' := (jI (pch n k), iI k, h)) k (by omega) ?_ ?_)).trans rfl
  · intro i hi
    obtain ⟨p1, p2, p3, p4, -⟩ := pch_ok n hn i (by omega)
    show bX0_choose_5 h (iI n) (iI k) (jI (pch n i)) (iI i) h = _
    unfold bX0_choose_5
    rw [if_neg (by rw [iI_le ⟨by omega, by omega⟩ ⟨by omega, by omega⟩]; omega), iI_sub, iI_lit, iI_add, iI_long ⟨by omega, by omega⟩, iI_long ⟨by omega, by omega⟩, jI_mul]
    rw [if_pos (by rw [jI_lit, jI_eq ⟨by omega, by omega⟩ ⟨by omega, by omega⟩]; omega), jI_div ⟨by omega, by omega⟩ ⟨by omega, by omega⟩ p3 (by omega)]
    rfl
  · show bX0_choose_5 h (iI n) (iI k) (jI (pch n k)) (iI k) h = _
    unfold bX0_choose_5
    rw [if_pos (by rw [iI_le ⟨by omega, by omega⟩ ⟨by omega, by omega⟩]; omega)]
theorem fX12_rowsOf_eq {n : Int} {k : Nat} (hn : -1000 ≤ n ∧ n ≤ 1000) (hk : k ≤ 1000) (h : Zh) : fX12_rowsOf (iI n) (iI k) h = some (jI (pfall n k), h) := by
  unfold fX12_rowsOf
  rw [zlet_eq]
  refine (lp_bd (lp_for (st := fun i => ((jI (pfall n i), iI i, h) : Int64 × Int32 × Zh)) (e := 0) (s' := (jI (pfall n k), iI k, h)) k (by omega) ?_ ?_)).trans rfl
  · intro i hi
    show bX12_rowsOf_5 h (iI n) (iI k) (jI (pfall n i)) (iI i) h = _
    unfold bX12_rowsOf_5
    rw [if_neg (by rw [iI_le ⟨by omega, by omega⟩ ⟨by omega, by omega⟩]; omega), zlet_eq, zlet_eq, iI_sub, iI_long ⟨by omega, by omega⟩, jI_mul, iI_lit, iI_add]
    rfl
  · show bX12_rowsOf_5 h (iI n) (iI k) (jI (pfall n k)) (iI k) h = _
    unfold bX12_rowsOf_5
    rw [if_pos (by rw [iI_le ⟨by omega, by omega⟩ ⟨by omega, by omega⟩]; omega)]
theorem fX12_setsOf_eq {n k : Nat} (hn : n < 201) (hk : k < 6) (h : Zh) : fX12_setsOf (iI n) (iI k) h = some (jI (pch n k), h) := by
  obtain ⟨p1, p2, p3, p4, p5, p6, p7, p8, p9, p10⟩ := pch_ok n hn k hk
  unfold fX12_setsOf
  rw [zlet_eq, fX12_rowsOf_eq ⟨by omega, by omega⟩ (by omega), zc2_some, fX12_rowsOf_eq ⟨by omega, by omega⟩ (by omega), zc2_some]
  rw [if_pos (by rw [jI_lit, jI_eq ⟨by omega, by omega⟩ ⟨by omega, by omega⟩]; omega), jI_div ⟨by omega, by omega⟩ ⟨by omega, by omega⟩ p7 p9, p5]
