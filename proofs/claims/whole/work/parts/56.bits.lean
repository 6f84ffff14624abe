/-! bits, once the numbers stand as whole ones -/
theorem si_one {c : Nat} (hc : c < 31) : iI 1 <<< (iI (c : Int) &&& iI 31) = iI ((2 ^ c : Nat) : Int) := iI_one hc
theorem si_bit {m c : Nat} (hm : m < 2147483648) (hc : c < 32) : (iI (m : Int) >>> (iI (c : Int) &&& iI 31)) &&& iI 1 = iI (((if m.testBit c then 1 else 0 : Nat)) : Int) := by
  rw [← bit_tb]
  exact iI_bit hm hc
theorem si_bit0 {m c : Nat} (hm : m < 2147483648) (hc : c < 32) : ((iI (m : Int) >>> (iI (c : Int) &&& iI 31)) &&& iI 1 = iI 0) ↔ m.testBit c = false := by
  rw [si_bit hm hc]
  cases m.testBit c <;> decide
theorem si_bit1 {m c : Nat} (hm : m < 2147483648) (hc : c < 32) : ((iI (m : Int) >>> (iI (c : Int) &&& iI 31)) &&& iI 1 = iI 1) ↔ m.testBit c = true := by
  rw [si_bit hm hc]
  cases m.testBit c <;> decide
theorem si_div {a b : Int} (h0 : 0 ≤ a) (h2 : a < 2147483648) (h1 : 0 < b) (h3 : b < 2147483648) : iI a / iI b = iI (a / b) := iI_div ⟨by omega, h2⟩ ⟨by omega, h3⟩ h0 h1
theorem si_rem {a b : Int} (h0 : 0 ≤ a) (h2 : a < 2147483648) (h1 : 0 < b) (h3 : b < 2147483648) : zrem (iI a) (iI b) = iI (a % b) := iI_rem ⟨by omega, h2⟩ ⟨by omega, h3⟩ h0 h1
theorem si_divN {a b : Nat} (h2 : a < 2147483648) (h1 : 0 < b) (h3 : b < 2147483648) : iI (a : Int) / iI (b : Int) = iI ((a / b : Nat) : Int) := si_div (by omega) (by omega) (by omega) (by omega)
theorem si_remN {a b : Nat} (h2 : a < 2147483648) (h1 : 0 < b) (h3 : b < 2147483648) : zrem (iI (a : Int)) (iI (b : Int)) = iI ((a % b : Nat) : Int) := si_rem (by omega) (by omega) (by omega) (by omega)
/-! how many bits below -/
def bsum (m : Nat) : Nat → Nat
  | 0 => 0
  | c + 1 => bsum m c + (if m.testBit c then 1 else 0)
theorem bsum_k : ∀ a : Nat, a < 64 → ∀ b : Nat, b < 64 → ∀ c : Nat, c < 13 → popn 12 ((64 * a + b) &&& (2 ^ c - 1)) = bsum (64 * a + b) c := by decide +kernel
theorem bsum_pop {m c : Nat} (hm : m < 4096) (hc : c ≤ 12) : popn 12 (m &&& (2 ^ c - 1)) = bsum m c := by
  have := bsum_k (m / 64) (by omega) (m % 64) (by omega) c (by omega)
  rw [show 64 * (m / 64) + m % 64 = m by omega] at this
  exact this
