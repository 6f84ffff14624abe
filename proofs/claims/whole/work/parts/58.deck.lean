/-! the class's deck -/
def pc (p i : Nat) : Nat := p / 2 ^ (4 * i) % 16
theorem fX0_cardAt_eq {p i : Nat} (hp : p < 2147483648) (hi : i < 8) (h : Zh) : fX0_cardAt (iI p) (iI i) h = some (iI (pc p i), h) := by
  unfold fX0_cardAt
  simp (disch := (first | assumption | omega | decide)) only [zlet_eq, zc2_some, Option.bind_some, ↓si_m1, ↓si_m2, ↓si_m3, iI_lit, iI_add, iI_sub, iI_mul, si_le, si_lt, si_eq, si_zin, si_clamp, Int.toNat_natCast, if_pos, if_neg, zI_sI, zI_sJ, zI_sR, zJ_sI, zJ_sJ, zJ_sR, zR_sI, zR_sJ, zR_sR, zK_sI, zK_sJ, zK_sR, zL_sI, zL_sJ, zL_sR, zI_aI, zJ_aI, zR_aI, zK_aI, zL_aI, z2_at, z2_a, z2_k, z1_self, z1_ne, true_and, and_true]
  rw [show (4 : Int) * (i : Int) = ((4 * i : Nat) : Int) by omega, show iI 31 = (31 : Int32) from rfl, iI_shr (by omega) (by omega), show iI 15 = iI ((15 : Nat) : Int) from rfl, iI_and, show (15 : Nat) = 2 ^ 4 - 1 from rfl, Nat.and_two_pow_sub_one_eq_mod]
  rfl
theorem pkf_at {w : Nat → Nat} : ∀ (i j k : Nat), (∀ a, j ≤ a → a < j + k → w a < 16) → i < k → pkf w j k / 2 ^ (4 * i) % 16 = w (j + i)
  | 0, j, k + 1, hw, _ => by
    rw [pkf, Nat.mul_zero, Nat.pow_zero, Nat.div_one]
    show _ = w j
    have := hw j (Nat.le_refl _) (by omega)
    omega
  | i + 1, j, k + 1, hw, hi => by
    have h1 := hw j (Nat.le_refl _) (by omega)
    have ih := pkf_at i (j + 1) k (fun a b c => hw a (by omega) (by omega)) (by omega)
    rw [pkf, show 4 * (i + 1) = 4 + 4 * i by omega, Nat.pow_add, ← Nat.div_div_eq_div_mul, show (w j + 16 * pkf w (j + 1) k) / 2 ^ 4 = pkf w (j + 1) k by omega, ih, show j + 1 + i = j + (i + 1) by omega]
theorem pc_pkf {w : Nat → Nat} {i k : Nat} (hw : ∀ a, a < k → w a < 16) (hi : i < k) : pc (pkf w 0 k) i = w i := by
  have := pkf_at (w := w) i 0 k (fun a _ c => hw a (by omega)) hi
  rw [Nat.zero_add] at this
  exact this
theorem fX0_lower_eq {m c : Nat} (hm : m < 4096) (hc : c ≤ 12) (h : Zh) : fX0_lower (iI m) (iI c) h = some (iI (bsum m c), h) := by
  unfold fX0_lower
  have h2 : 0 < 2 ^ c := Nat.two_pow_pos c
  have hl : (m &&& (2 ^ c - 1)) < 4096 := Nat.lt_of_le_of_lt Nat.and_le_left hm
  simp (disch := (first | assumption | omega | decide)) only [zlet_eq, zc2_some, Option.bind_some, ↓si_m1, ↓si_m2, ↓si_m3, iI_lit, iI_add, iI_sub, iI_mul, si_le, si_lt, si_eq, si_zin, si_clamp, Int.toNat_natCast, if_pos, if_neg, zI_sI, zI_sJ, zI_sR, zJ_sI, zJ_sJ, zJ_sR, zR_sI, zR_sJ, zR_sR, zK_sI, zK_sJ, zK_sR, zL_sI, zL_sJ, zL_sR, zI_aI, zJ_aI, zR_aI, zK_aI, zL_aI, z2_at, z2_a, z2_k, z1_self, z1_ne, true_and, and_true, si_one]
  rw [show ((2 ^ c : Nat) : Int) - 1 = ((2 ^ c - 1 : Nat) : Int) by omega, iI_and, fJ6_bitCount_eq hl, zc2_some, bsum_pop hm hc]
theorem bsum_small {w : Nat → Nat} {a : Nat} (h : dst w (a + 1)) (i : Nat) (hi : i ≤ a) : bsum (fmask w i) (w i) = cntl w (w i) i := bsum_fmask _ _ (h.le (by omega))
theorem fX0_rowNumber_eq {d r n a L : Nat} {w : Nat → Nat} {h : Zh} (k1 : zK h d = 0) (k2 : zK h r = 100) (k3 : zL h r = L) (hL : L < 2147483648) (hc : zI h d 0 = iI n) (hn : n ≤ 12) (ha : a ≤ 5) (haL : a ≤ L) (hw : ∀ i, i < a → zI h r i = iI (w i) ∧ w i < n) (hd : dst w a) : fX0_rowNumber d r (iI a) h = some (iI (rowN n w a), h) := by
  unfold fX0_rowNumber
  simp (disch := (first | assumption | omega | decide)) only [zlet_eq, zc2_some, Option.bind_some, ↓si_m1, ↓si_m2, ↓si_m3, iI_lit, iI_add, iI_sub, iI_mul, si_le, si_lt, si_eq, si_zin, si_clamp, Int.toNat_natCast, if_pos, if_neg, zI_sI, zI_sJ, zI_sR, zJ_sI, zJ_sJ, zJ_sR, zR_sI, zR_sJ, zR_sR, zK_sI, zK_sJ, zK_sR, zL_sI, zL_sJ, zL_sR, zI_aI, zJ_aI, zR_aI, zK_aI, zL_aI, z2_at, z2_a, z2_k, z1_self, z1_ne, true_and, and_true]
  refine (lp_fb (st := fun i => ((iI (rowN n w i), iI (fmask w i), iI i, h) : Int32 × Int32 × Int32 × Zh)) (e := 0) (s' := (iI (rowN n w a), iI (fmask w a), iI a, h)) a rfl (by omega) ?_ ?_).trans rfl
  · intro i hi
    show bX0_rowNumber_8 h d r (iI a) (iI (rowN n w i)) (iI (fmask w i)) (iI i) h = _
    have hw1 := (hw i hi).1
    have hw2 := (hw i hi).2
    have hm : fmask w i < 4096 := fmask_lt (N := 12) i (fun j hj => by have := (hw j (by omega)).2; omega)
    have h2 : 0 < 2 ^ w i := Nat.two_pow_pos _
    have hl : (fmask w i &&& (2 ^ w i - 1)) < 4096 := Nat.lt_of_le_of_lt Nat.and_le_left hm
    have hq := bsum_fmask (w i) i (hd.le (by omega))
    have hcl := cntl_le (hd.le (show i + 1 ≤ a by omega))
    have hdl := dg_lt (hd.le (show i + 1 ≤ a by omega)) (fun j hj => (hw j (by omega)).2)
    unfold bX0_rowNumber_8
    simp (disch := (first | assumption | omega | decide)) only [zlet_eq, zc2_some, Option.bind_some, ↓si_m1, ↓si_m2, ↓si_m3, iI_lit, iI_add, iI_sub, iI_mul, si_le, si_lt, si_eq, si_zin, si_clamp, Int.toNat_natCast, if_pos, if_neg, zI_sI, zI_sJ, zI_sR, zJ_sI, zJ_sJ, zJ_sR, zR_sI, zR_sJ, zR_sR, zK_sI, zK_sJ, zK_sR, zL_sI, zL_sJ, zL_sR, zI_aI, zJ_aI, zR_aI, zK_aI, zL_aI, z2_at, z2_a, z2_k, z1_self, z1_ne, true_and, and_true, k1, k2, k3, hc, hw1, si_one]
    rw [show ((2 ^ w i : Nat) : Int) - 1 = ((2 ^ w i - 1 : Nat) : Int) by omega, iI_and, fJ6_bitCount_eq hl, zc2_some, bsum_pop hm (by omega), hq]
    simp (disch := (first | assumption | omega | decide)) only [zlet_eq, zc2_some, Option.bind_some, ↓si_m1, ↓si_m2, ↓si_m3, iI_lit, iI_add, iI_sub, iI_mul, si_le, si_lt, si_eq, si_zin, si_clamp, Int.toNat_natCast, if_pos, if_neg, zI_sI, zI_sJ, zI_sR, zJ_sI, zJ_sJ, zJ_sR, zR_sI, zR_sJ, zR_sR, zK_sI, zK_sJ, zK_sR, zL_sI, zL_sJ, zL_sR, zI_aI, zJ_aI, zR_aI, zK_aI, zL_aI, z2_at, z2_a, z2_k, z1_self, z1_ne, true_and, and_true, iI_or]
    rw [rowN, fmask, dg, show (rowN n w i : Int) * ((n : Int) - i) + (w i : Int) - (cntl w (w i) i : Int) = ((rowN n w i * (n - i) + (w i - cntl w (w i) i) : Nat) : Int) by
      have e : ((n - i : Nat) : Int) = (n : Int) - i := by omega
      have e2 : ((w i - cntl w (w i) i : Nat) : Int) = (w i : Int) - (cntl w (w i) i : Int) := by omega
      rw [Int.natCast_add, Int.natCast_mul, e, e2]
      omega]
    rfl
  · show bX0_rowNumber_8 h d r (iI a) (iI (rowN n w a)) (iI (fmask w a)) (iI a) h = _
    unfold bX0_rowNumber_8
    simp (disch := (first | assumption | omega | decide)) only [zlet_eq, zc2_some, Option.bind_some, ↓si_m1, ↓si_m2, ↓si_m3, iI_lit, iI_add, iI_sub, iI_mul, si_le, si_lt, si_eq, si_zin, si_clamp, Int.toNat_natCast, if_pos, if_neg, zI_sI, zI_sJ, zI_sR, zJ_sI, zJ_sJ, zJ_sR, zR_sI, zR_sJ, zR_sR, zK_sI, zK_sJ, zK_sR, zL_sI, zL_sJ, zL_sR, zI_aI, zJ_aI, zR_aI, zK_aI, zL_aI, z2_at, z2_a, z2_k, z1_self, z1_ne, true_and, and_true]
theorem fX0_unusedCard_eq {d n m u : Nat} {h : Zh} (k1 : zK h d = 0) (hc : zI h d 0 = iI n) (hn : n ≤ 12) (hm : m < 4096) (hu : u ≤ 12) : fX0_unusedCard d (iI m) (iI u) h = some (iI ((if zfst (uP m u) n < n then zfst (uP m u) n else 0 : Nat)), h) := by
  unfold fX0_unusedCard
  simp (disch := (first | assumption | omega | decide)) only [zlet_eq, zc2_some, Option.bind_some, ↓si_m1, ↓si_m2, ↓si_m3, iI_lit, iI_add, iI_sub, iI_mul, si_le, si_lt, si_eq, si_zin, si_clamp, Int.toNat_natCast, if_pos, if_neg, zI_sI, zI_sJ, zI_sR, zJ_sI, zJ_sJ, zJ_sR, zR_sI, zR_sJ, zR_sR, zK_sI, zK_sJ, zK_sR, zL_sI, zL_sJ, zL_sR, zI_aI, zJ_aI, zR_aI, zK_aI, zL_aI, z2_at, z2_a, z2_k, z1_self, z1_ne, true_and, and_true]
  have key : ∀ i, i ≤ zfst (uP m u) n → i ≤ bsum m i + u := by
    intro i
    induction i with
    | zero => intro _; omega
    | succ i ih =>
      intro hi
      have h1 := ih (by omega)
      have h2 : uP m u i = false := zfst_before (n := n) (by omega)
      rw [bsum]
      cases e : m.testBit i
      · have h3 : ¬ (i = bsum m i + u) := fun c => by rw [uP_t.mpr ⟨e, c⟩] at h2; cases h2
        omega
      · simp
        omega
  have hz := zfst_le (uP m u) n
  by_cases c : zfst (uP m u) n < n
  · rw [if_pos c]
    refine (lp_fb (st := fun i => ((iI ((u : Int) + bsum m i - i), iI i, h) : Int32 × Int32 × Zh)) (e := 0) (s' := (iI 0, iI (zfst (uP m u) n), h)) (zfst (uP m u) n) (by simp [bsum, iI]) (by omega) ?_ ?_).trans rfl
    · intro i hi
      show bX0_unusedCard_5 h d (iI m) (iI ((u : Int) + bsum m i - i)) (iI i) h = _
      unfold bX0_unusedCard_5
      have h1 := key i (by omega)
      have h2 : uP m u i = false := zfst_before hi
      have h4 := bsum_c m i
      simp (disch := (first | assumption | omega | decide)) only [zlet_eq, zc2_some, Option.bind_some, ↓si_m1, ↓si_m2, ↓si_m3, iI_lit, iI_add, iI_sub, iI_mul, si_le, si_lt, si_eq, si_zin, si_clamp, Int.toNat_natCast, if_pos, if_neg, zI_sI, zI_sJ, zI_sR, zJ_sI, zJ_sJ, zJ_sR, zR_sI, zR_sJ, zR_sR, zK_sI, zK_sJ, zK_sR, zL_sI, zL_sJ, zL_sR, zI_aI, zJ_aI, zR_aI, zK_aI, zL_aI, z2_at, z2_a, z2_k, z1_self, z1_ne, true_and, and_true, k1, hc, ↓si_bit0]
      cases e : m.testBit i
      · have h3 : ¬ (i = bsum m i + u) := fun c => by rw [uP_t.mpr ⟨e, c⟩] at h2; cases h2
        simp (disch := (first | assumption | omega | decide)) only [zlet_eq, zc2_some, Option.bind_some, ↓si_m1, ↓si_m2, ↓si_m3, iI_lit, iI_add, iI_sub, iI_mul, si_le, si_lt, si_eq, si_zin, si_clamp, Int.toNat_natCast, if_pos, if_neg, zI_sI, zI_sJ, zI_sR, zJ_sI, zJ_sJ, zJ_sR, zR_sI, zR_sJ, zR_sR, zK_sI, zK_sJ, zK_sR, zL_sI, zL_sJ, zL_sR, zI_aI, zJ_aI, zR_aI, zK_aI, zL_aI, z2_at, z2_a, z2_k, z1_self, z1_ne, true_and, and_true]
        rw [bsum, e]
        simp
        congr 1
        omega
      · simp (disch := (first | assumption | omega | decide)) only [zlet_eq, zc2_some, Option.bind_some, ↓si_m1, ↓si_m2, ↓si_m3, iI_lit, iI_add, iI_sub, iI_mul, si_le, si_lt, si_eq, si_zin, si_clamp, Int.toNat_natCast, if_pos, if_neg, zI_sI, zI_sJ, zI_sR, zJ_sI, zJ_sJ, zJ_sR, zR_sI, zR_sJ, zR_sR, zK_sI, zK_sJ, zK_sR, zL_sI, zL_sJ, zL_sR, zI_aI, zJ_aI, zR_aI, zK_aI, zL_aI, z2_at, z2_a, z2_k, z1_self, z1_ne, true_and, and_true]
        rw [bsum, e]
        simp
        congr 1
        omega
    · show bX0_unusedCard_5 h d (iI m) (iI ((u : Int) + bsum m (zfst (uP m u) n) - (zfst (uP m u) n : Nat))) (iI (zfst (uP m u) n)) h = _
      unfold bX0_unusedCard_5
      obtain ⟨g1, g2⟩ := uP_t.mp (zfst_at c)
      have g3 : (u : Int) + bsum m (zfst (uP m u) n) - (zfst (uP m u) n : Nat) = 0 := by omega
      rw [g3]
      simp (disch := (first | assumption | omega | decide)) only [zlet_eq, zc2_some, Option.bind_some, ↓si_m1, ↓si_m2, ↓si_m3, iI_lit, iI_add, iI_sub, iI_mul, si_le, si_lt, si_eq, si_zin, si_clamp, Int.toNat_natCast, if_pos, if_neg, zI_sI, zI_sJ, zI_sR, zJ_sI, zJ_sJ, zJ_sR, zR_sI, zR_sJ, zR_sR, zK_sI, zK_sJ, zK_sR, zL_sI, zL_sJ, zL_sR, zI_aI, zJ_aI, zR_aI, zK_aI, zL_aI, z2_at, z2_a, z2_k, z1_self, z1_ne, true_and, and_true, k1, hc, ↓si_bit0, g1]
  · rw [if_neg c]
    have cn : zfst (uP m u) n = n := by omega
    refine (lp_fb (st := fun i => ((iI ((u : Int) + bsum m i - i), iI i, h) : Int32 × Int32 × Zh)) (e := 1) (s' := (iI ((u : Int) + bsum m n - n), iI n, h)) n (by simp [bsum, iI]) (by omega) ?_ ?_).trans rfl
    · intro i hi
      show bX0_unusedCard_5 h d (iI m) (iI ((u : Int) + bsum m i - i)) (iI i) h = _
      unfold bX0_unusedCard_5
      have h1 := key i (by omega)
      have h2 : uP m u i = false := zfst_before (n := n) (by omega)
      have h4 := bsum_c m i
      simp (disch := (first | assumption | omega | decide)) only [zlet_eq, zc2_some, Option.bind_some, ↓si_m1, ↓si_m2, ↓si_m3, iI_lit, iI_add, iI_sub, iI_mul, si_le, si_lt, si_eq, si_zin, si_clamp, Int.toNat_natCast, if_pos, if_neg, zI_sI, zI_sJ, zI_sR, zJ_sI, zJ_sJ, zJ_sR, zR_sI, zR_sJ, zR_sR, zK_sI, zK_sJ, zK_sR, zL_sI, zL_sJ, zL_sR, zI_aI, zJ_aI, zR_aI, zK_aI, zL_aI, z2_at, z2_a, z2_k, z1_self, z1_ne, true_and, and_true, k1, hc, ↓si_bit0]
      cases e : m.testBit i
      · have h3 : ¬ (i = bsum m i + u) := fun c => by rw [uP_t.mpr ⟨e, c⟩] at h2; cases h2
        simp (disch := (first | assumption | omega | decide)) only [zlet_eq, zc2_some, Option.bind_some, ↓si_m1, ↓si_m2, ↓si_m3, iI_lit, iI_add, iI_sub, iI_mul, si_le, si_lt, si_eq, si_zin, si_clamp, Int.toNat_natCast, if_pos, if_neg, zI_sI, zI_sJ, zI_sR, zJ_sI, zJ_sJ, zJ_sR, zR_sI, zR_sJ, zR_sR, zK_sI, zK_sJ, zK_sR, zL_sI, zL_sJ, zL_sR, zI_aI, zJ_aI, zR_aI, zK_aI, zL_aI, z2_at, z2_a, z2_k, z1_self, z1_ne, true_and, and_true]
        rw [bsum, e]
        simp
        congr 1
        omega
      · simp (disch := (first | assumption | omega | decide)) only [zlet_eq, zc2_some, Option.bind_some, ↓si_m1, ↓si_m2, ↓si_m3, iI_lit, iI_add, iI_sub, iI_mul, si_le, si_lt, si_eq, si_zin, si_clamp, Int.toNat_natCast, if_pos, if_neg, zI_sI, zI_sJ, zI_sR, zJ_sI, zJ_sJ, zJ_sR, zR_sI, zR_sJ, zR_sR, zK_sI, zK_sJ, zK_sR, zL_sI, zL_sJ, zL_sR, zI_aI, zJ_aI, zR_aI, zK_aI, zL_aI, z2_at, z2_a, z2_k, z1_self, z1_ne, true_and, and_true]
        rw [bsum, e]
        simp
        congr 1
        omega
    · show bX0_unusedCard_5 h d (iI m) (iI ((u : Int) + bsum m n - n)) (iI n) h = _
      unfold bX0_unusedCard_5
      simp (disch := (first | assumption | omega | decide)) only [zlet_eq, zc2_some, Option.bind_some, ↓si_m1, ↓si_m2, ↓si_m3, iI_lit, iI_add, iI_sub, iI_mul, si_le, si_lt, si_eq, si_zin, si_clamp, Int.toNat_natCast, if_pos, if_neg, zI_sI, zI_sJ, zI_sR, zJ_sI, zJ_sJ, zJ_sR, zR_sI, zR_sJ, zR_sR, zK_sI, zK_sJ, zK_sR, zL_sI, zL_sJ, zL_sR, zI_aI, zJ_aI, zR_aI, zK_aI, zL_aI, z2_at, z2_a, z2_k, z1_self, z1_ne, true_and, and_true, k1, hc]
