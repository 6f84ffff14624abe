/-! up to five numbers below 16 in one, the first lowest -/
def pkf (w : Nat → Nat) (i : Nat) : Nat → Nat
  | 0 => 0
  | k + 1 => w i + 16 * pkf w (i + 1) k
theorem pkf_lt {w : Nat → Nat} : ∀ (k i : Nat), (∀ j, i ≤ j → j < i + k → w j < 16) → pkf w i k < 16 ^ k
  | 0, i, _ => by simp [pkf]
  | k + 1, i, h => by
    have h1 := h i (Nat.le_refl _) (by omega)
    have h2 := pkf_lt k (i + 1) (fun j a b => h j (by omega) (by omega))
    rw [pkf, Nat.pow_succ]
    omega
theorem lp_for0 {S : Type} {body : S → Option (Nat × S)} {s0 : S} (st : Nat → S) {e : Nat} {s' : S} (n : Nat) (h0 : s0 = st 0) (hn : n < 2 ^ 62) (hs : ∀ i, i < n → body (st i) = some (0, st (i + 1))) (hx : body (st n) = some (e + 1, s')) : lp body zB s0 = some (e + 1, s') := by rw [h0]; exact lp_for st n hn hs hx
theorem fX5_pack_eq {r0 rw n : Nat} {w : Nat → Nat} {h : Zh} (k1 : zK h r0 = 5) (k2 : zR h r0 0 = some rw) (k3 : zK h rw = 100) (k4 : zL h rw = 5) (hn : n ≤ 5) (hw : ∀ i, i < n → zI h rw i = iI (w i) ∧ w i < 16) : fX5_pack r0 (iI n) h = some (iI (pkf w 0 n), h) := by
  unfold fX5_pack
  rw [zlet_eq, zlet_eq, si_1, iI_sub]
  refine (lp_bd (lp_for0 (st := fun i => ((iI (pkf w (n - i) i), iI ((n : Int) - 1 - i), h) : Int32 × Int32 × Zh)) (e := 0) (s' := (iI (pkf w 0 n), iI (-1), h)) n (by rw [show (n : Int) - 1 - ((0 : Nat) : Int) = n - 1 by omega]; rfl) (by omega) ?_ ?_)).trans rfl
  · intro i hi
    show bX5_pack_6 h r0 (iI (pkf w (n - i) i)) (iI ((n : Int) - 1 - i)) h = _
    have hl := pkf_lt (w := w) i (n - i) (fun j a b => (hw j (by omega)).2)
    have hl4 : 16 ^ i ≤ 16 ^ 4 := Nat.pow_le_pow_right (by decide) (by omega)
    have hc : ((n : Int) - 1 - i) = ((n - 1 - i : Nat) : Int) := by omega
    unfold bX5_pack_6
    rw [hc, si_0, if_neg (by rw [si_lt (by omega) (by omega) (by omega) (by omega)]; omega), if_pos k1, k2, Option.bind_some, if_pos k3, k4, if_pos (zin_N (by omega) (by omega)), iI_clampN (by omega), (hw _ (by omega)).1, zlet_eq, zlet_eq, si_1, show (4 : Int32) = iI ((4 : Nat) : Int) from rfl, iI_shl (by decide) (by omega), iI_or, si_m1, iI_add]
    have e1 : pkf w (n - i) i * 2 ^ 4 ||| w (n - 1 - i) = pkf w (n - (i + 1)) (i + 1) := by
      rw [Nat.mul_comm, ← Nat.two_pow_add_eq_or_of_lt (by have := (hw (n - 1 - i) (by omega)).2; omega)]
      rw [pkf, show n - (i + 1) = n - 1 - i by omega, show n - 1 - i + 1 = n - i by omega]
      omega
    rw [e1]
    have e2 : ((n - 1 - i : Nat) : Int) + -1 = (n : Int) - 1 - ((i + 1 : Nat) : Int) := by omega
    rw [e2]
  · show bX5_pack_6 h r0 (iI (pkf w (n - n) n)) (iI ((n : Int) - 1 - n)) h = _
    unfold bX5_pack_6
    rw [show (n : Int) - 1 - n = -1 by omega, Nat.sub_self, if_pos (by decide)]
