/-! numbers of the machine as whole numbers -/
def iI (z : Int) : Int32 := Int32.ofInt z
def jI (z : Int) : Int64 := Int64.ofInt z
abbrev iR (z : Int) : Prop := -2147483648 ≤ z ∧ z < 2147483648
abbrev jR (z : Int) : Prop := -9223372036854775808 ≤ z ∧ z < 9223372036854775808
theorem iI_toInt {z : Int} (h : iR z) : (iI z).toInt = z := by
  unfold iI
  rw [Int32.toInt_ofInt]
  have e : (Int32.size : Int) = 4294967296 := rfl
  exact Int.bmod_eq_of_le (by omega) (by omega)
theorem jI_toInt {z : Int} (h : jR z) : (jI z).toInt = z := by
  unfold jI
  rw [Int64.toInt_ofInt]
  have e : (Int64.size : Int) = 18446744073709551616 := rfl
  exact Int.bmod_eq_of_le (by omega) (by omega)
theorem iI_of (x : Int32) : iI x.toInt = x := Int32.ofInt_toInt x
theorem jI_of (x : Int64) : jI x.toInt = x := Int64.ofInt_toInt x
theorem iR_of (x : Int32) : iR x.toInt := ⟨by have := Int32.le_toInt x; omega, by have := Int32.toInt_lt x; omega⟩
theorem iI_ex (x : Int32) : ∃ z, iR z ∧ x = iI z := ⟨x.toInt, iR_of x, (iI_of x).symm⟩
theorem iI_add (a b : Int) : iI a + iI b = iI (a + b) := (Int32.ofInt_add a b).symm
theorem iI_sub (a b : Int) : iI a - iI b = iI (a - b) := (Int32.ofInt_sub a b).symm
theorem iI_mul (a b : Int) : iI a * iI b = iI (a * b) := (Int32.ofInt_mul a b).symm
theorem jI_add (a b : Int) : jI a + jI b = jI (a + b) := (Int64.ofInt_add a b).symm
theorem jI_sub (a b : Int) : jI a - jI b = jI (a - b) := (Int64.ofInt_sub a b).symm
theorem jI_mul (a b : Int) : jI a * jI b = jI (a * b) := (Int64.ofInt_mul a b).symm
theorem iI_lit (n : Nat) : (OfNat.ofNat n : Int32) = iI (OfNat.ofNat n) := rfl
theorem jI_lit (n : Nat) : (OfNat.ofNat n : Int64) = jI (OfNat.ofNat n) := rfl
theorem iI_neg1 : (-1 : Int32) = iI (-1) := by decide
theorem iI_le {a b : Int} (ha : iR a) (hb : iR b) : iI a ≤ iI b ↔ a ≤ b := by rw [Int32.le_iff_toInt_le, iI_toInt ha, iI_toInt hb]
theorem iI_lt {a b : Int} (ha : iR a) (hb : iR b) : iI a < iI b ↔ a < b := by rw [Int32.lt_iff_toInt_lt, iI_toInt ha, iI_toInt hb]
theorem iI_eq {a b : Int} (ha : iR a) (hb : iR b) : iI a = iI b ↔ a = b := by rw [← Int32.toInt_inj, iI_toInt ha, iI_toInt hb]
theorem jI_le {a b : Int} (ha : jR a) (hb : jR b) : jI a ≤ jI b ↔ a ≤ b := by rw [Int64.le_iff_toInt_le, jI_toInt ha, jI_toInt hb]
theorem jI_lt {a b : Int} (ha : jR a) (hb : jR b) : jI a < jI b ↔ a < b := by rw [Int64.lt_iff_toInt_lt, jI_toInt ha, jI_toInt hb]
theorem jI_eq {a b : Int} (ha : jR a) (hb : jR b) : jI a = jI b ↔ a = b := by rw [← Int64.toInt_inj, jI_toInt ha, jI_toInt hb]
theorem iI_long {a : Int} (ha : iR a) : (iI a).toInt64 = jI a := by
  rw [← Int64.toInt_inj, Int32.toInt_toInt64, iI_toInt ha, jI_toInt ⟨by omega, by omega⟩]
theorem jI_int (a : Int) : (jI a).toInt32 = iI a := by
  unfold jI iI
  rw [← Int32.toInt_inj, Int64.toInt_toInt32, Int64.toInt_ofInt, Int32.toInt_ofInt]
  exact Int.bmod_bmod_of_dvd (by decide)
theorem iI_clamp {a : Int} (ha : iR a) : (iI a).toNatClampNeg = a.toNat := by
  show (iI a).toInt.toNat = _
  rw [iI_toInt ha]
theorem iI_clampN {a : Nat} (ha : a < 2147483648) : (iI a).toNatClampNeg = a := by rw [iI_clamp ⟨by omega, by omega⟩]; rfl
theorem iI_div {a b : Int} (ha : iR a) (hb : iR b) (h0 : 0 ≤ a) (h1 : 0 < b) : iI a / iI b = iI (a / b) := by
  rw [← Int32.toInt_inj, Int32.toInt_div, iI_toInt ha, iI_toInt hb]
  have hq : 0 ≤ a / b := Int.ediv_nonneg h0 (by omega)
  have hq2 : a / b ≤ a := Int.ediv_le_self b h0
  rw [iI_toInt ⟨by omega, by omega⟩, Int.tdiv_eq_ediv_of_nonneg h0]
  exact Int.bmod_eq_of_le (by omega) (by omega)
theorem jI_div {a b : Int} (ha : jR a) (hb : jR b) (h0 : 0 ≤ a) (h1 : 0 < b) : jI a / jI b = jI (a / b) := by
  rw [← Int64.toInt_inj, Int64.toInt_div, jI_toInt ha, jI_toInt hb]
  have hq : 0 ≤ a / b := Int.ediv_nonneg h0 (by omega)
  have hq2 : a / b ≤ a := Int.ediv_le_self b h0
  rw [jI_toInt ⟨by omega, by omega⟩, Int.tdiv_eq_ediv_of_nonneg h0]
  exact Int.bmod_eq_of_le (by omega) (by omega)
theorem iI_rem {a b : Int} (ha : iR a) (hb : iR b) (h0 : 0 ≤ a) (h1 : 0 < b) : zrem (iI a) (iI b) = iI (a % b) := by
  unfold zrem
  rw [iI_div ha hb h0 h1, iI_mul, iI_sub]
  congr 1
  have := Int.mul_ediv_add_emod a b
  have e : a / b * b = b * (a / b) := Int.mul_comm _ _
  omega
/-! loops -/
theorem lp_count {S : Type} {body : S → Option (Nat × S)} {st : Nat → S} {e : Nat} {s' : S} : ∀ (n N k : Nat), k + n < N + k → (∀ i, k ≤ i → i < k + n → body (st i) = some (0, st (i + 1))) → body (st (k + n)) = some (e + 1, s') → lp body N (st k) = some (e + 1, s') := by
  intro n
  induction n with
  | zero =>
    intro N k hN _ hx
    obtain ⟨N, rfl⟩ : ∃ M, N = M + 1 := ⟨N - 1, by omega⟩
    rw [Nat.add_zero] at hx
    rw [lp, hx]
  | succ n ih =>
    intro N k hN hs hx
    obtain ⟨N, rfl⟩ : ∃ M, N = M + 1 := ⟨N - 1, by omega⟩
    rw [lp, hs k (Nat.le_refl _) (by omega)]
    exact ih N (k + 1) (by omega) (fun i h1 h2 => hs i (by omega) (by omega)) (by rw [show k + 1 + n = k + (n + 1) by omega]; exact hx)
theorem lp_for {S : Type} {body : S → Option (Nat × S)} (st : Nat → S) {e : Nat} {s' : S} (n : Nat) (hn : n < 2 ^ 62) (hs : ∀ i, i < n → body (st i) = some (0, st (i + 1))) (hx : body (st n) = some (e + 1, s')) : lp body zB (st 0) = some (e + 1, s') :=
  lp_count n zB 0 (by show 0 + n < 2 ^ 62 + 0; omega) (fun i _ h => hs i (by omega)) (by rw [Nat.zero_add]; exact hx)
theorem lp_inv {S : Type} {body : S → Option (Nat × S)} (I : S → Prop) (μ : S → Nat) (P : Nat → S → Prop) (hs : ∀ s, I s → (∃ s', body s = some (0, s') ∧ I s' ∧ μ s' < μ s) ∨ (∃ e s', body s = some (e + 1, s') ∧ P (e + 1) s')) : ∀ (N : Nat) (s : S), I s → μ s < N → ∃ e s', lp body N s = some (e + 1, s') ∧ P (e + 1) s' := by
  intro N
  induction N with
  | zero => intro s _ h; exact absurd h (Nat.not_lt_zero _)
  | succ N ih =>
    intro s hI hm
    rcases hs s hI with ⟨s', h1, h2, h3⟩ | ⟨e, s', h1, h2⟩
    · obtain ⟨e, s2, q1, q2⟩ := ih s' h2 (by omega)
      exact ⟨e, s2, by rw [lp, h1]; exact q1, q2⟩
    · exact ⟨e, s', by rw [lp, h1], h2⟩
theorem lp_bd {S β : Type} {body : S → Option (Nat × S)} {s0 : S} {q : Nat × S} {f : Nat × S → Option β} (h : lp body zB s0 = some q) : (lp body zB s0).bind f = f q := by rw [h]; rfl
theorem zlet_eq {α β : Type} (x : α) (f : α → β) : zlet x f = f x := rfl
theorem zc2_some {α β : Type} (a : α) (k : Zh) (f : α → Zh → Option β) : zc2 (some (a, k)) f = f a k := rfl
/-! products of falling numbers -/
def pfall (n : Int) : Nat → Int
  | 0 => 1
  | k + 1 => pfall n k * (n - k)
theorem fX0_falling_eq {n : Int} {k : Nat} (hn : -1000 ≤ n ∧ n ≤ 1000) (hk : k ≤ 1000) (h : Zh) : fX0_falling (iI n) (iI k) h = some (jI (pfall n k), h) := by
  unfold fX0_falling
  rw [zlet_eq]
  refine (lp_bd (lp_for (st := fun i => ((jI (pfall n i), iI i, h) : Int64 × Int32 × Zh)) (e := 0) (s' := (jI (pfall n k), iI k, h)) k (by omega) ?_ ?_)).trans rfl
  · intro i hi
    show bX0_falling_5 h (iI n) (iI k) (jI (pfall n i)) (iI i) h = _
    unfold bX0_falling_5
    rw [if_neg (by rw [iI_le ⟨by omega, by omega⟩ ⟨by omega, by omega⟩]; omega), zlet_eq, zlet_eq, iI_sub, iI_long ⟨by omega, by omega⟩, jI_mul, iI_lit, iI_add]
    rfl
  · show bX0_falling_5 h (iI n) (iI k) (jI (pfall n k)) (iI k) h = _
    unfold bX0_falling_5
    rw [if_pos (by rw [iI_le ⟨by omega, by omega⟩ ⟨by omega, by omega⟩]; omega)]
/-! rows for simp, each bound by itself -/
theorem si_le {a b : Int} (h1 : -2147483648 ≤ a) (h2 : a < 2147483648) (h3 : -2147483648 ≤ b) (h4 : b < 2147483648) : iI a ≤ iI b ↔ a ≤ b := iI_le ⟨h1, h2⟩ ⟨h3, h4⟩
theorem si_lt {a b : Int} (h1 : -2147483648 ≤ a) (h2 : a < 2147483648) (h3 : -2147483648 ≤ b) (h4 : b < 2147483648) : iI a < iI b ↔ a < b := iI_lt ⟨h1, h2⟩ ⟨h3, h4⟩
theorem si_eq {a b : Int} (h1 : -2147483648 ≤ a) (h2 : a < 2147483648) (h3 : -2147483648 ≤ b) (h4 : b < 2147483648) : iI a = iI b ↔ a = b := iI_eq ⟨h1, h2⟩ ⟨h3, h4⟩
theorem si_toInt {a : Int} (h1 : -2147483648 ≤ a) (h2 : a < 2147483648) : (iI a).toInt = a := iI_toInt ⟨h1, h2⟩
theorem si_clamp {a : Int} (h1 : -2147483648 ≤ a) (h2 : a < 2147483648) : (iI a).toNatClampNeg = a.toNat := iI_clamp ⟨h1, h2⟩
theorem si_long {a : Int} (h1 : -2147483648 ≤ a) (h2 : a < 2147483648) : (iI a).toInt64 = jI a := iI_long ⟨h1, h2⟩
theorem si_m1 : (-1 : Int32) = iI (-1) := rfl
theorem si_m2 : (-2 : Int32) = iI (-2) := rfl
theorem si_0 : (0 : Int32) = iI 0 := rfl
theorem si_1 : (1 : Int32) = iI 1 := rfl
theorem zc2_bd {α β : Type} {x : Option (α × Zh)} {a : α} {k : Zh} {f : α → Zh → Option β} (h : x = some (a, k)) : zc2 x f = f a k := by rw [h]; rfl
