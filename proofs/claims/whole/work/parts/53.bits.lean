/-! what the picture holds behind a change -/
theorem zI_sI (h : Zh) (a k : Nat) (v : Int32) : zI (zsI h a k v) = z2 (zI h) a k v := rfl
theorem zI_sJ (h : Zh) (a k : Nat) (v : Int64) : zI (zsJ h a k v) = zI h := rfl
theorem zI_sR (h : Zh) (a k : Nat) (v : Option Nat) : zI (zsR h a k v) = zI h := rfl
theorem zJ_sI (h : Zh) (a k : Nat) (v : Int32) : zJ (zsI h a k v) = zJ h := rfl
theorem zJ_sJ (h : Zh) (a k : Nat) (v : Int64) : zJ (zsJ h a k v) = z2 (zJ h) a k v := rfl
theorem zJ_sR (h : Zh) (a k : Nat) (v : Option Nat) : zJ (zsR h a k v) = zJ h := rfl
theorem zR_sI (h : Zh) (a k : Nat) (v : Int32) : zR (zsI h a k v) = zR h := rfl
theorem zR_sJ (h : Zh) (a k : Nat) (v : Int64) : zR (zsJ h a k v) = zR h := rfl
theorem zR_sR (h : Zh) (a k : Nat) (v : Option Nat) : zR (zsR h a k v) = z2 (zR h) a k v := rfl
theorem zK_sI (h : Zh) (a k : Nat) (v : Int32) : zK (zsI h a k v) = zK h := rfl
theorem zK_sJ (h : Zh) (a k : Nat) (v : Int64) : zK (zsJ h a k v) = zK h := rfl
theorem zK_sR (h : Zh) (a k : Nat) (v : Option Nat) : zK (zsR h a k v) = zK h := rfl
theorem zL_sI (h : Zh) (a k : Nat) (v : Int32) : zL (zsI h a k v) = zL h := rfl
theorem zL_sJ (h : Zh) (a k : Nat) (v : Int64) : zL (zsJ h a k v) = zL h := rfl
theorem zL_sR (h : Zh) (a k : Nat) (v : Option Nat) : zL (zsR h a k v) = zL h := rfl
theorem zI_aI (h : Zh) (a : Nat) (f : Nat → Int32) : zI (zaI h a f) = z1 (zI h) a f := rfl
theorem zJ_aI (h : Zh) (a : Nat) (f : Nat → Int32) : zJ (zaI h a f) = zJ h := rfl
theorem zR_aI (h : Zh) (a : Nat) (f : Nat → Int32) : zR (zaI h a f) = zR h := rfl
theorem zK_aI (h : Zh) (a : Nat) (f : Nat → Int32) : zK (zaI h a f) = zK h := rfl
theorem zL_aI (h : Zh) (a : Nat) (f : Nat → Int32) : zL (zaI h a f) = zL h := rfl
theorem z2_at {α : Type} (f : Nat → Nat → α) (a k : Nat) (v : α) : z2 f a k v a k = v := by simp [z2]
theorem z2_k {α : Type} (f : Nat → Nat → α) (a : Nat) {k j : Nat} (v : α) (h : j ≠ k) : z2 f a k v a j = f a j := by simp [z2, h]
theorem z2_a {α : Type} (f : Nat → Nat → α) {a b : Nat} (k j : Nat) (v : α) (h : b ≠ a) : z2 f a k v b j = f b j := by simp [z2, h]
theorem z2_same {α : Type} (f : Nat → Nat → α) (a k : Nat) (v w : α) : z2 (z2 f a k v) a k w = z2 f a k w := by
  funext x y
  unfold z2
  by_cases h : x = a ∧ y = k
  · rw [if_pos h, if_pos h]
  · rw [if_neg h, if_neg h, if_neg h]
theorem zsI_same (h : Zh) (a k : Nat) (v w : Int32) : zsI (zsI h a k v) a k w = zsI h a k w := by
  unfold zsI
  rw [zI, zI]
  show (h.1, zK h, zL h, z2 (z2 (zI h) a k v) a k w, zJ h, zR h) = _
  rw [z2_same]
  rfl
/-! bits of small numbers -/
theorem iI_nI (n : Nat) : iI n = nI n := rfl
theorem iI_or (a b : Nat) : iI a ||| iI b = iI ((a ||| b : Nat) : Int) := by
  show nI a ||| nI b = nI (a ||| b)
  rw [← Int32.toBitVec_inj]
  show BitVec.ofNat 32 a ||| BitVec.ofNat 32 b = BitVec.ofNat 32 (a ||| b)
  rw [BitVec.ofNat_or]
theorem iI_and (a b : Nat) : iI a &&& iI b = iI ((a &&& b : Nat) : Int) := by
  show nI a &&& nI b = nI (a &&& b)
  rw [← Int32.toBitVec_inj]
  show BitVec.ofNat 32 a &&& BitVec.ofNat 32 b = BitVec.ofNat 32 (a &&& b)
  rw [BitVec.ofNat_and]
theorem iI_xor (a b : Nat) : iI a ^^^ iI b = iI ((a ^^^ b : Nat) : Int) := by
  show nI a ^^^ nI b = nI (a ^^^ b)
  rw [← Int32.toBitVec_inj]
  show BitVec.ofNat 32 a ^^^ BitVec.ofNat 32 b = BitVec.ofNat 32 (a ^^^ b)
  rw [BitVec.ofNat_xor]
theorem iI_shc : ∀ k : Nat, k < 32 → ((iI k &&& 31).toBitVec.smod 32).toNat = k := by decide +kernel
theorem iI_shl {a k : Nat} (hk : k < 32) (h : a * 2 ^ k < 2 ^ 32) : iI a <<< (iI k &&& 31) = iI ((a * 2 ^ k : Nat) : Int) := pk_shlN _ k (iI_shc k hk) h
theorem iI_shr {a k : Nat} (ha : a < 2 ^ 31) (hk : k < 32) : iI a >>> (iI k &&& 31) = iI ((a / 2 ^ k : Nat) : Int) := pk_shrN ha _ k (iI_shc k hk)
theorem iI_bit {a k : Nat} (ha : a < 2 ^ 31) (hk : k < 32) : (iI a >>> (iI k &&& 31)) &&& (1 : Int32) = iI ((a / 2 ^ k % 2 : Nat) : Int) := by
  rw [iI_shr ha hk, show (1 : Int32) = iI ((1 : Nat) : Int) from rfl, iI_and]
  congr 2
  rw [Nat.and_one_is_mod]
theorem iI_one {k : Nat} (hk : k < 31) : (1 : Int32) <<< (iI k &&& 31) = iI ((2 ^ k : Nat) : Int) := by
  have e : 1 * 2 ^ k < 2 ^ 32 := by
    have : 2 ^ k < 2 ^ 31 := Nat.pow_lt_pow_right (by decide) hk
    omega
  rw [show (1 : Int32) = iI ((1 : Nat) : Int) from rfl, iI_shl (by omega) e, Nat.one_mul]
/-- how many bits -/
def bcx (x0 : Int32) : Int32 :=
  let y1 := x0 - ((zush x0 (1 : Int32)) &&& (1431655765 : Int32))
  let y2 := (y1 &&& (858993459 : Int32)) + ((zush y1 (2 : Int32)) &&& (858993459 : Int32))
  let y3 := (y2 + (zush y2 (4 : Int32))) &&& (252645135 : Int32)
  let y4 := y3 + (zush y3 (8 : Int32))
  let y5 := y4 + (zush y4 (16 : Int32))
  y5 &&& (63 : Int32)
theorem fJ6_bc (x : Int32) (h : Zh) : fJ6_bitCount_0f7a4 x h = some (bcx x, h) := rfl
def popn : Nat → Nat → Nat
  | 0, _ => 0
  | k + 1, m => m % 2 + popn k (m / 2)
theorem bcx_ok0 : ∀ a : Nat, a < 64 → ∀ b : Nat, b < 64 → bcx (iI ((64 * a + b : Nat) : Int)) = iI (popn 12 (64 * a + b)) := by decide +kernel
theorem bcx_ok (m : Nat) (hm : m < 4096) : bcx (iI m) = iI (popn 12 m) := by
  have := bcx_ok0 (m / 64) (by omega) (m % 64) (by omega)
  rw [show 64 * (m / 64) + m % 64 = m by omega] at this
  exact this
theorem fJ6_bitCount_eq {m : Nat} (hm : m < 4096) (h : Zh) : fJ6_bitCount_0f7a4 (iI m) h = some (iI (popn 12 m), h) := by rw [fJ6_bc, bcx_ok m hm]
