/-! the class's deck: what is a hand, its number, what is kept, counts -/
theorem lp_sc {S β : Type} {body : S → Option (Nat × S)} {s0 : S} {k : Nat × S → Option β} (st : Nat → S) (P : Nat → Bool) (n : Nat) (h0 : s0 = st 0) (hn : n < 2 ^ 62) (hs : ∀ i, i < n → P i = false → body (st i) = some (0, st (i + 1))) {y1 : Option β} {e2 : Nat} {s2 : S} (hf : ∀ i, i < n → (∀ j, j < i → P j = false) → P i = true → zfst P n = i → ∃ e s, body (st i) = some (e + 1, s) ∧ k (e + 1, s) = y1) (hx : body (st n) = some (e2 + 1, s2)) : (lp body zB s0).bind k = if zfst P n < n then y1 else k (e2 + 1, s2) := by
  have hl := zfst_le P n
  by_cases c : zfst P n < n
  · rw [if_pos c]
    obtain ⟨e, s, q1, q2⟩ := hf _ c (fun j hj => zfst_before hj) (zfst_at c) rfl
    exact (lp_fb st e (zfst P n) h0 (by omega) (fun i hi => hs i (by omega) (zfst_before hi)) q1).trans q2
  · rw [if_neg c]
    have e : zfst P n = n := by omega
    exact lp_fb st e2 n h0 hn (fun i hi => hs i hi (zfst_before (by rw [e]; exact hi))) hx
def nohd (n k : Nat) (x : Nat → Int) (i : Nat) : Bool := if i < k then !decide (0 ≤ x i ∧ x i < n ∧ ∀ j, j < i → x j ≠ x i) else !decide (x i = -1)
theorem nohd_f {n k : Nat} {x : Nat → Int} {i : Nat} (c : i < k) : nohd n k x i = false ↔ (0 ≤ x i ∧ x i < n ∧ ∀ j, j < i → x j ≠ x i) := by
  unfold nohd
  rw [if_pos c]
  simp
theorem nohd_b {n k : Nat} {x : Nat → Int} {i : Nat} (c : ¬ i < k) : nohd n k x i = false ↔ x i = -1 := by
  unfold nohd
  rw [if_neg c]
  simp
theorem bt_ne {b : Bool} (h : b = true) : ¬ b = false := by rw [h]; decide
theorem fX0_isHand_eq {d r n k : Nat} {x : Nat → Int} {h : Zh} (k1 : zK h d = 0) (k2 : zK h r = 100) (k3 : zL h r = 5) (hc : zI h d 0 = iI n) (hk : zI h d 3 = iI k) (hn : n ≤ 12) (hk5 : k ≤ 5) (hx : ∀ i, i < 5 → zI h r i = iI (x i) ∧ iR (x i)) : fX0_isHand d r h = some (if zfst (nohd n k x) 5 < 5 then iI 0 else iI 1, h) := by
  unfold fX0_isHand
  simp (disch := (first | assumption | omega | decide)) only [zlet_eq, zc2_some, Option.bind_some, ↓si_m1, ↓si_m2, ↓si_m3, iI_lit, iI_add, iI_sub, iI_mul, si_le, si_lt, si_eq, si_zin, si_clamp, Int.toNat_natCast, if_pos, if_neg, zI_sI, zI_sJ, zI_sR, zJ_sI, zJ_sJ, zJ_sR, zR_sI, zR_sJ, zR_sR, zK_sI, zK_sJ, zK_sR, zL_sI, zL_sJ, zL_sR, zI_aI, zJ_aI, zR_aI, zK_aI, zL_aI, z2_at, z2_a, z2_k, z1_self, z1_ne, true_and, and_true]
  have body : ∀ i, i < 5 → (∀ j, j < i → nohd n k x j = false) → (nohd n k x i = false → bX0_isHand_4 h d r (iI (fmask (fun j => (x j).toNat) (min i k))) (iI i) h = some (0, (iI (fmask (fun j => (x j).toNat) (min (i + 1) k)), iI ((i + 1 : Nat) : Int), h))) ∧ (nohd n k x i = true → ∃ e s, bX0_isHand_4 h d r (iI (fmask (fun j => (x j).toNat) (min i k))) (iI i) h = some (e + 1, s) ∧ kX0_isHand_4 h (e + 1) s.1 s.2.1 s.2.2 = some (iI 0, h)) := by
    intro i hi hb
    obtain ⟨hx1, hx2⟩ := hx i hi
    have hx3 := hx2.1
    have hx4 := hx2.2
    by_cases c : i < k
    · have e1 : min i k = i := by omega
      have e2 : min (i + 1) k = i + 1 := by omega
      rw [e1, e2]
      have hm : fmask (fun j => (x j).toNat) i < 4096 := fmask_lt (N := 12) i (fun j hj => by
        have := (nohd_f (show j < k by omega)).mp (hb j hj)
        omega)
      by_cases c1 : 0 ≤ x i ∧ x i < n
      · have hbit : (fmask (fun j => (x j).toNat) i).testBit (x i).toNat = true ↔ ¬ ∀ j, j < i → x j ≠ x i := by
          rw [fmask_bit]
          constructor
          · rintro ⟨j, hj, e⟩ q
            have := (nohd_f (show j < k by omega)).mp (hb j hj)
            exact q j hj (by omega)
          · intro q
            refine Classical.byContradiction fun q2 => q fun j hj e => q2 ⟨j, hj, by rw [e]⟩
        obtain ⟨y, hy⟩ : ∃ y : Nat, x i = (y : Int) := ⟨(x i).toNat, by omega⟩
        have hy2 : (x i).toNat = y := by omega
        rw [hy2] at hbit
        rw [hy] at hx1
        unfold bX0_isHand_4
        simp (disch := (first | assumption | omega | decide)) only [zlet_eq, zc2_some, Option.bind_some, ↓si_m1, ↓si_m2, ↓si_m3, iI_lit, iI_add, iI_sub, iI_mul, si_le, si_lt, si_eq, si_zin, si_clamp, Int.toNat_natCast, if_pos, if_neg, zI_sI, zI_sJ, zI_sR, zJ_sI, zJ_sJ, zJ_sR, zR_sI, zR_sJ, zR_sR, zK_sI, zK_sJ, zK_sR, zL_sI, zL_sJ, zL_sR, zI_aI, zJ_aI, zR_aI, zK_aI, zL_aI, z2_at, z2_a, z2_k, z1_self, z1_ne, true_and, and_true, k1, k2, k3, hx1, hc, hk, ↓si_bit1]
        constructor
        · intro hP
          have hP := (nohd_f c).mp hP
          have hbf : ¬ (fmask (fun j => (x j).toNat) i).testBit y = true := by
            rw [hbit]; exact fun q => q hP.2.2
          simp (disch := (first | assumption | omega | decide)) only [zlet_eq, zc2_some, Option.bind_some, ↓si_m1, ↓si_m2, ↓si_m3, iI_lit, iI_add, iI_sub, iI_mul, si_le, si_lt, si_eq, si_zin, si_clamp, Int.toNat_natCast, if_pos, if_neg, zI_sI, zI_sJ, zI_sR, zJ_sI, zJ_sJ, zJ_sR, zR_sI, zR_sJ, zR_sR, zK_sI, zK_sJ, zK_sR, zL_sI, zL_sJ, zL_sR, zI_aI, zJ_aI, zR_aI, zK_aI, zL_aI, z2_at, z2_a, z2_k, z1_self, z1_ne, true_and, and_true, si_one, iI_or]
          rw [fmask, hy2]
          rfl
        · intro hP
          have hP := fun q => bt_ne hP ((nohd_f c).mpr q)
          have hbf : (fmask (fun j => (x j).toNat) i).testBit y = true := by
            rw [hbit]; exact fun q => hP ⟨c1.1, c1.2, q⟩
          refine ⟨1, (_, _, _), by simp (disch := (first | assumption | omega | decide)) only [zlet_eq, zc2_some, Option.bind_some, ↓si_m1, ↓si_m2, ↓si_m3, iI_lit, iI_add, iI_sub, iI_mul, si_le, si_lt, si_eq, si_zin, si_clamp, Int.toNat_natCast, if_pos, if_neg, zI_sI, zI_sJ, zI_sR, zJ_sI, zJ_sJ, zJ_sR, zR_sI, zR_sJ, zR_sR, zK_sI, zK_sJ, zK_sR, zL_sI, zL_sJ, zL_sR, zI_aI, zJ_aI, zR_aI, zK_aI, zL_aI, z2_at, z2_a, z2_k, z1_self, z1_ne, true_and, and_true, hbf]; rfl, rfl⟩
      · constructor
        · intro hP
          have hP := (nohd_f c).mp hP
          exact absurd ⟨hP.1, hP.2.1⟩ c1
        · intro _
          refine ⟨1, (iI (fmask (fun j => (x j).toNat) i), iI i, h), ?_, rfl⟩
          unfold bX0_isHand_4
          by_cases c2 : x i < 0
          · simp (disch := (first | assumption | omega | decide)) only [zlet_eq, zc2_some, Option.bind_some, ↓si_m1, ↓si_m2, ↓si_m3, iI_lit, iI_add, iI_sub, iI_mul, si_le, si_lt, si_eq, si_zin, si_clamp, Int.toNat_natCast, if_pos, if_neg, zI_sI, zI_sJ, zI_sR, zJ_sI, zJ_sJ, zJ_sR, zR_sI, zR_sJ, zR_sR, zK_sI, zK_sJ, zK_sR, zL_sI, zL_sJ, zL_sR, zI_aI, zJ_aI, zR_aI, zK_aI, zL_aI, z2_at, z2_a, z2_k, z1_self, z1_ne, true_and, and_true, k1, k2, k3, hx1, hc, hk]
          · simp (disch := (first | assumption | omega | decide)) only [zlet_eq, zc2_some, Option.bind_some, ↓si_m1, ↓si_m2, ↓si_m3, iI_lit, iI_add, iI_sub, iI_mul, si_le, si_lt, si_eq, si_zin, si_clamp, Int.toNat_natCast, if_pos, if_neg, zI_sI, zI_sJ, zI_sR, zJ_sI, zJ_sJ, zJ_sR, zR_sI, zR_sJ, zR_sR, zK_sI, zK_sJ, zK_sR, zL_sI, zL_sJ, zL_sR, zI_aI, zJ_aI, zR_aI, zK_aI, zL_aI, z2_at, z2_a, z2_k, z1_self, z1_ne, true_and, and_true, k1, k2, k3, hx1, hc, hk]
    · have e1 : min i k = k := by omega
      have e2 : min (i + 1) k = k := by omega
      rw [e1, e2]
      unfold bX0_isHand_4
      constructor
      · intro hP
        have hP := (nohd_b c).mp hP
        simp (disch := (first | assumption | omega | decide)) only [zlet_eq, zc2_some, Option.bind_some, ↓si_m1, ↓si_m2, ↓si_m3, iI_lit, iI_add, iI_sub, iI_mul, si_le, si_lt, si_eq, si_zin, si_clamp, Int.toNat_natCast, if_pos, if_neg, zI_sI, zI_sJ, zI_sR, zJ_sI, zJ_sJ, zJ_sR, zR_sI, zR_sJ, zR_sR, zK_sI, zK_sJ, zK_sR, zL_sI, zL_sJ, zL_sR, zI_aI, zJ_aI, zR_aI, zK_aI, zL_aI, z2_at, z2_a, z2_k, z1_self, z1_ne, true_and, and_true, k1, k2, k3, hx1, hc, hk]
        rfl
      · intro hP
        have hP := fun q => bt_ne hP ((nohd_b c).mpr q)
        refine ⟨0, (iI (fmask (fun j => (x j).toNat) k), iI i, h), ?_, rfl⟩
        simp (disch := (first | assumption | omega | decide)) only [zlet_eq, zc2_some, Option.bind_some, ↓si_m1, ↓si_m2, ↓si_m3, iI_lit, iI_add, iI_sub, iI_mul, si_le, si_lt, si_eq, si_zin, si_clamp, Int.toNat_natCast, if_pos, if_neg, zI_sI, zI_sJ, zI_sR, zJ_sI, zJ_sJ, zJ_sR, zR_sI, zR_sJ, zR_sR, zK_sI, zK_sJ, zK_sR, zL_sI, zL_sJ, zL_sR, zI_aI, zJ_aI, zR_aI, zK_aI, zL_aI, z2_at, z2_a, z2_k, z1_self, z1_ne, true_and, and_true, k1, k2, k3, hx1, hc, hk]
  have hz := zfst_le (nohd n k x) 5
  by_cases c : zfst (nohd n k x) 5 < 5
  · rw [if_pos c]
    obtain ⟨e, s, q1, q2⟩ := (body _ c (fun j hj => zfst_before hj)).2 (zfst_at c)
    refine (lp_fb (st := fun i => ((iI (fmask (fun j => (x j).toNat) (min i k)), iI i, h) : Int32 × Int32 × Zh)) (e := e) (s' := s) (zfst (nohd n k x) 5) (by simp [fmask]) (by omega) ?_ q1).trans q2
    intro i hi
    exact (body i (by omega) (fun j hj => zfst_before (show j < zfst (nohd n k x) 5 by omega))).1 (zfst_before hi)
  · rw [if_neg c]
    refine (lp_fb (st := fun i => ((iI (fmask (fun j => (x j).toNat) (min i k)), iI i, h) : Int32 × Int32 × Zh)) (e := 2) (s' := (iI (fmask (fun j => (x j).toNat) (min 5 k)), iI (5 : Nat), h)) 5 (by simp [fmask]) (by omega) ?_ ?_).trans rfl
    · intro i hi
      exact (body i (by omega) (fun j hj => zfst_before (show j < zfst (nohd n k x) 5 by omega))).1 (zfst_before (n := 5) (by omega))
    · show bX0_isHand_4 h d r _ (iI (5 : Nat)) h = _
      unfold bX0_isHand_4
      rw [if_pos (by decide)]
/-- hands behind one, if she lays -/
def bhd (n k : Nat) (s : Nat → Nat) : Nat → Int
  | 0 => 0
  | i + 1 => bhd n k s i + pch ((n - 1 - s i : Nat) : Int) (k - i)
theorem fX0_handNumber_she {d r n k L : Nat} {w : Nat → Nat} {h : Zh} (k1 : zK h d = 0) (k2 : zK h r = 100) (k3 : zL h r = L) (hL : L < 2147483648) (hrd : r ≠ d) (hc : zI h d 0 = iI n) (hk : zI h d 3 = iI k) (h6 : zI h d 6 = iI 0) (hn : n ≤ 12) (hk1 : 1 ≤ k) (hk5 : k ≤ 5) (hkL : k ≤ L) (hw : ∀ i, i < k → zI h r i = iI (w i) ∧ w i < n) (hd : dst w k) : fX0_handNumber d r h = some (iI (pch n k - 1 - bhd n k (srt w k) k), zaI h r (fun j => if j < k then iI (srt w k j) else zI h r j)) := by
  unfold fX0_handNumber
  have hdr : d ≠ r := fun e => hrd e.symm
  have sl := srt_lt hd (fun i hi => (hw i hi).2)
  simp (disch := (first | assumption | omega | decide)) only [zlet_eq, zc2_some, Option.bind_some, ↓si_m1, ↓si_m2, ↓si_m3, iI_lit, iI_add, iI_sub, iI_mul, si_le, si_lt, si_eq, si_zin, si_clamp, Int.toNat_natCast, if_pos, if_neg, zI_sI, zI_sJ, zI_sR, zJ_sI, zJ_sJ, zJ_sR, zR_sI, zR_sJ, zR_sR, zK_sI, zK_sJ, zK_sR, zL_sI, zL_sJ, zL_sR, zI_aI, zJ_aI, zR_aI, zK_aI, zL_aI, z2_at, z2_a, z2_k, z1_self, z1_ne, true_and, and_true, k1, h6, hk]
  rw [fX0_sort_eq k2 k3 hL hk1 hkL (fun i hi => ⟨(hw i hi).1, by have := (hw i hi).2; omega⟩) hd]
  simp (disch := (first | assumption | omega | decide)) only [zlet_eq, zc2_some, Option.bind_some, ↓si_m1, ↓si_m2, ↓si_m3, iI_lit, iI_add, iI_sub, iI_mul, si_le, si_lt, si_eq, si_zin, si_clamp, Int.toNat_natCast, if_pos, if_neg, zI_sI, zI_sJ, zI_sR, zJ_sI, zJ_sJ, zJ_sR, zR_sI, zR_sJ, zR_sR, zK_sI, zK_sJ, zK_sR, zL_sI, zL_sJ, zL_sR, zI_aI, zJ_aI, zR_aI, zK_aI, zL_aI, z2_at, z2_a, z2_k, z1_self, z1_ne, true_and, and_true]
  refine (lp_fb (st := fun i => ((jI (bhd n k (srt w k) i), iI i, zaI h r (fun j => if j < k then iI (srt w k j) else zI h r j)) : Int64 × Int32 × Zh)) (e := 0) (s' := (jI (bhd n k (srt w k) k), iI k, zaI h r (fun j => if j < k then iI (srt w k j) else zI h r j))) k rfl (by omega) ?_ ?_).trans ?_
  · intro i hi
    show bX0_handNumber_30 h d r (jI (bhd n k (srt w k) i)) (iI i) (zaI h r _) = _
    unfold bX0_handNumber_30
    have hs := sl i hi
    have e1 : (n : Int) - 1 - (srt w k i : Int) = ((n - 1 - srt w k i : Nat) : Int) := by omega
    have e2 : (k : Int) - i = ((k - i : Nat) : Int) := by omega
    simp (disch := (first | assumption | omega | decide)) only [zlet_eq, zc2_some, Option.bind_some, ↓si_m1, ↓si_m2, ↓si_m3, iI_lit, iI_add, iI_sub, iI_mul, si_le, si_lt, si_eq, si_zin, si_clamp, Int.toNat_natCast, if_pos, if_neg, zI_sI, zI_sJ, zI_sR, zJ_sI, zJ_sJ, zJ_sR, zR_sI, zR_sJ, zR_sR, zK_sI, zK_sJ, zK_sR, zL_sI, zL_sJ, zL_sR, zI_aI, zJ_aI, zR_aI, zK_aI, zL_aI, z2_at, z2_a, z2_k, z1_self, z1_ne, true_and, and_true, k1, k2, k3, hc, hk, e1, e2, fX0_choose_eq, jI_add]
    rfl
  · show bX0_handNumber_30 h d r _ (iI k) (zaI h r _) = _
    unfold bX0_handNumber_30
    simp (disch := (first | assumption | omega | decide)) only [zlet_eq, zc2_some, Option.bind_some, ↓si_m1, ↓si_m2, ↓si_m3, iI_lit, iI_add, iI_sub, iI_mul, si_le, si_lt, si_eq, si_zin, si_clamp, Int.toNat_natCast, if_pos, if_neg, zI_sI, zI_sJ, zI_sR, zJ_sI, zJ_sJ, zJ_sR, zR_sI, zR_sJ, zR_sR, zK_sI, zK_sJ, zK_sR, zL_sI, zL_sJ, zL_sR, zI_aI, zJ_aI, zR_aI, zK_aI, zL_aI, z2_at, z2_a, z2_k, z1_self, z1_ne, true_and, and_true, hk]
  · show kX0_handNumber_30 h d 1 _ _ (zaI h r _) = _
    unfold kX0_handNumber_30
    simp (disch := (first | assumption | omega | decide)) only [zlet_eq, zc2_some, Option.bind_some, ↓si_m1, ↓si_m2, ↓si_m3, iI_lit, iI_add, iI_sub, iI_mul, si_le, si_lt, si_eq, si_zin, si_clamp, Int.toNat_natCast, if_pos, if_neg, zI_sI, zI_sJ, zI_sR, zJ_sI, zJ_sJ, zJ_sR, zR_sI, zR_sJ, zR_sR, zK_sI, zK_sJ, zK_sR, zL_sI, zL_sJ, zL_sR, zI_aI, zJ_aI, zR_aI, zK_aI, zL_aI, z2_at, z2_a, z2_k, z1_self, z1_ne, true_and, and_true, hc, hk, fX0_choose_eq, jI_lit, jI_sub, jI_int]
theorem fX0_handNumber_str {d r n k L : Nat} {w : Nat → Nat} {h : Zh} (k1 : zK h d = 0) (k2 : zK h r = 100) (k3 : zL h r = L) (hL : L < 2147483648) (hc : zI h d 0 = iI n) (hk : zI h d 3 = iI k) (h6 : zI h d 6 = iI 1) (hn : n ≤ 12) (hk5 : k ≤ 5) (hkL : k ≤ L) (hw : ∀ i, i < k → zI h r i = iI (w i) ∧ w i < n) (hd : dst w k) : fX0_handNumber d r h = some (iI (rowN n w k), h) := by
  unfold fX0_handNumber
  simp (disch := (first | assumption | omega | decide)) only [zlet_eq, zc2_some, Option.bind_some, ↓si_m1, ↓si_m2, ↓si_m3, iI_lit, iI_add, iI_sub, iI_mul, si_le, si_lt, si_eq, si_zin, si_clamp, Int.toNat_natCast, if_pos, if_neg, zI_sI, zI_sJ, zI_sR, zJ_sI, zJ_sJ, zJ_sR, zR_sI, zR_sJ, zR_sR, zK_sI, zK_sJ, zK_sR, zL_sI, zL_sJ, zL_sR, zI_aI, zJ_aI, zR_aI, zK_aI, zL_aI, z2_at, z2_a, z2_k, z1_self, z1_ne, true_and, and_true, k1, h6, hk]
  rw [fX0_rowNumber_eq k1 k2 k3 hL hc hn hk5 hkL hw hd]
  rfl
/-- the cards of a hand that aren't in a row -/
def offm (m : Nat) (w : Nat → Nat) : Nat → Nat
  | 0 => m
  | i + 1 => offm m w i &&& (2 ^ w i ^^^ 4294967295)
theorem offm_bit {m : Nat} (hm : m < 4096) (w : Nat → Nat) (x : Nat) : ∀ a, (offm m w a).testBit x = true ↔ (m.testBit x = true ∧ ∀ i, i < a → w i ≠ x)
  | 0 => ⟨fun h => ⟨h, fun i hi => absurd hi (Nat.not_lt_zero _)⟩, fun h => h.1⟩
  | a + 1 => by
    rw [offm, Nat.testBit_and, Bool.and_eq_true, offm_bit hm w x a, Nat.testBit_xor, Nat.testBit_two_pow, show (4294967295 : Nat) = 2 ^ 32 - 1 from rfl, Nat.testBit_two_pow_sub_one]
    constructor
    · rintro ⟨⟨h1, h2⟩, h3⟩
      refine ⟨h1, fun i hi => ?_⟩
      by_cases e : i = a
      · subst e
        intro q
        have hx : x < 32 := by
          refine Classical.byContradiction fun c => ?_
          have : m < 2 ^ x := Nat.lt_of_lt_of_le hm (Nat.le_trans (by decide : 4096 ≤ 2 ^ 32) (Nat.pow_le_pow_right (by decide) (by omega)))
          rw [Nat.testBit_lt_two_pow this] at h1
          cases h1
        simp [q, hx] at h3
      · exact h2 i (by omega)
    · rintro ⟨h1, h2⟩
      refine ⟨⟨h1, fun i hi => h2 i (by omega)⟩, ?_⟩
      have hx : x < 32 := by
        refine Classical.byContradiction fun c => ?_
        have : m < 2 ^ x := Nat.lt_of_lt_of_le hm (Nat.le_trans (by decide : 4096 ≤ 2 ^ 32) (Nat.pow_le_pow_right (by decide) (by omega)))
        rw [Nat.testBit_lt_two_pow this] at h1
        cases h1
      have := h2 a (by omega)
      simp [this, hx]
theorem offm_lt {m : Nat} (hm : m < 4096) (w : Nat → Nat) : ∀ a, offm m w a < 4096
  | 0 => hm
  | a + 1 => Nat.lt_of_le_of_lt Nat.and_le_left (offm_lt hm w a)
def kpP (m i c : Nat) : Bool := m.testBit c && decide (bsum m c = i)
theorem fX0_keptCard_eq {d r p n k sh i L : Nat} {w : Nat → Nat} {h : Zh} (k1 : zK h d = 0) (k2 : zK h r = 100) (k3 : zL h r = L) (hL : L < 2147483648) (hc : zI h d 0 = iI n) (hk : zI h d 3 = iI k) (hs : zI h d 5 = iI sh) (hn : n ≤ 12) (hk5 : k ≤ 5) (hsh : sh ≤ 5) (hsL : sh ≤ L) (hp : p < 2147483648) (hpc : ∀ j, j < k → pc p j < n) (hi : i < 2147483648) (hw : ∀ i, i < sh → zI h r i = iI (w i) ∧ w i < n) : fX0_keptCard d r (iI p) (iI i) h = some (if zfst (kpP (offm (fmask (pc p) k) w sh) i) n < n then iI (zfst (kpP (offm (fmask (pc p) k) w sh) i) n) else iI (-1), h) := by
  unfold fX0_keptCard
  simp (disch := (first | assumption | omega | decide)) only [zlet_eq, zc2_some, Option.bind_some, ↓si_m1, ↓si_m2, ↓si_m3, iI_lit, iI_add, iI_sub, iI_mul, si_le, si_lt, si_eq, si_zin, si_clamp, Int.toNat_natCast, if_pos, if_neg, zI_sI, zI_sJ, zI_sR, zJ_sI, zJ_sJ, zJ_sR, zR_sI, zR_sJ, zR_sR, zK_sI, zK_sJ, zK_sR, zL_sI, zL_sJ, zL_sR, zI_aI, zJ_aI, zR_aI, zK_aI, zL_aI, z2_at, z2_a, z2_k, z1_self, z1_ne, true_and, and_true]
  have hm : ∀ j, j ≤ k → fmask (pc p) j < 4096 := fun j hj => fmask_lt (N := 12) j (fun a ha => by have := hpc a (by omega); omega)
  have hm0 := hm k (Nat.le_refl _)
  refine (lp_fb (st := fun j => ((iI (fmask (pc p) j), iI j, h) : Int32 × Int32 × Zh)) (e := 0) (s' := (iI (fmask (pc p) k), iI k, h)) k rfl (by omega) ?_ ?_).trans ?_
  · intro j hj
    show bX0_keptCard_6 h d (iI p) (iI (fmask (pc p) j)) (iI j) h = _
    unfold bX0_keptCard_6
    have := hpc j hj
    simp (disch := (first | assumption | omega | decide)) only [zlet_eq, zc2_some, Option.bind_some, ↓si_m1, ↓si_m2, ↓si_m3, iI_lit, iI_add, iI_sub, iI_mul, si_le, si_lt, si_eq, si_zin, si_clamp, Int.toNat_natCast, if_pos, if_neg, zI_sI, zI_sJ, zI_sR, zJ_sI, zJ_sJ, zJ_sR, zR_sI, zR_sJ, zR_sR, zK_sI, zK_sJ, zK_sR, zL_sI, zL_sJ, zL_sR, zI_aI, zJ_aI, zR_aI, zK_aI, zL_aI, z2_at, z2_a, z2_k, z1_self, z1_ne, true_and, and_true, k1, hk, fX0_cardAt_eq, si_one, iI_or]
    rfl
  · show bX0_keptCard_6 h d (iI p) _ (iI k) h = _
    unfold bX0_keptCard_6
    simp (disch := (first | assumption | omega | decide)) only [zlet_eq, zc2_some, Option.bind_some, ↓si_m1, ↓si_m2, ↓si_m3, iI_lit, iI_add, iI_sub, iI_mul, si_le, si_lt, si_eq, si_zin, si_clamp, Int.toNat_natCast, if_pos, if_neg, zI_sI, zI_sJ, zI_sR, zJ_sI, zJ_sJ, zJ_sR, zR_sI, zR_sJ, zR_sR, zK_sI, zK_sJ, zK_sR, zL_sI, zL_sJ, zL_sR, zI_aI, zJ_aI, zR_aI, zK_aI, zL_aI, z2_at, z2_a, z2_k, z1_self, z1_ne, true_and, and_true, k1, hk]
  · show kX0_keptCard_6 h d r (iI i) 1 (iI (fmask (pc p) k)) (iI k) h = _
    unfold kX0_keptCard_6
    simp (disch := (first | assumption | omega | decide)) only [zlet_eq, zc2_some, Option.bind_some, ↓si_m1, ↓si_m2, ↓si_m3, iI_lit, iI_add, iI_sub, iI_mul, si_le, si_lt, si_eq, si_zin, si_clamp, Int.toNat_natCast, if_pos, if_neg, zI_sI, zI_sJ, zI_sR, zJ_sI, zJ_sJ, zJ_sR, zR_sI, zR_sJ, zR_sR, zK_sI, zK_sJ, zK_sR, zL_sI, zL_sJ, zL_sR, zI_aI, zJ_aI, zR_aI, zK_aI, zL_aI, z2_at, z2_a, z2_k, z1_self, z1_ne, true_and, and_true]
    refine (lp_fb (st := fun j => ((iI (offm (fmask (pc p) k) w j), iI j, h) : Int32 × Int32 × Zh)) (e := 0) (s' := (iI (offm (fmask (pc p) k) w sh), iI sh, h)) sh rfl (by omega) ?_ ?_).trans ?_
    · intro j hj
      show bX0_keptCard_37 h d r (iI (offm (fmask (pc p) k) w j)) (iI j) h = _
      unfold bX0_keptCard_37
      have hw1 := (hw j hj).1
      have hw2 := (hw j hj).2
      simp (disch := (first | assumption | omega | decide)) only [zlet_eq, zc2_some, Option.bind_some, ↓si_m1, ↓si_m2, ↓si_m3, iI_lit, iI_add, iI_sub, iI_mul, si_le, si_lt, si_eq, si_zin, si_clamp, Int.toNat_natCast, if_pos, if_neg, zI_sI, zI_sJ, zI_sR, zJ_sI, zJ_sJ, zJ_sR, zR_sI, zR_sJ, zR_sR, zK_sI, zK_sJ, zK_sR, zL_sI, zL_sJ, zL_sR, zI_aI, zJ_aI, zR_aI, zK_aI, zL_aI, z2_at, z2_a, z2_k, z1_self, z1_ne, true_and, and_true, k1, k2, k3, hs, hw1, si_one]
      rw [show iI (-1) = iI ((4294967295 : Nat) : Int) by decide, iI_xor, iI_and]
      rfl
    · show bX0_keptCard_37 h d r _ (iI sh) h = _
      unfold bX0_keptCard_37
      simp (disch := (first | assumption | omega | decide)) only [zlet_eq, zc2_some, Option.bind_some, ↓si_m1, ↓si_m2, ↓si_m3, iI_lit, iI_add, iI_sub, iI_mul, si_le, si_lt, si_eq, si_zin, si_clamp, Int.toNat_natCast, if_pos, if_neg, zI_sI, zI_sJ, zI_sR, zJ_sI, zJ_sJ, zJ_sR, zR_sI, zR_sJ, zR_sR, zK_sI, zK_sJ, zK_sR, zL_sI, zL_sJ, zL_sR, zI_aI, zJ_aI, zR_aI, zK_aI, zL_aI, z2_at, z2_a, z2_k, z1_self, z1_ne, true_and, and_true, k1, hs]
    · show kX0_keptCard_37 h d (iI i) 1 (iI (offm (fmask (pc p) k) w sh)) (iI sh) h = _
      unfold kX0_keptCard_37
      have ho := offm_lt hm0 w sh
      simp (disch := (first | assumption | omega | decide)) only [zlet_eq, zc2_some, Option.bind_some, ↓si_m1, ↓si_m2, ↓si_m3, iI_lit, iI_add, iI_sub, iI_mul, si_le, si_lt, si_eq, si_zin, si_clamp, Int.toNat_natCast, if_pos, if_neg, zI_sI, zI_sJ, zI_sR, zJ_sI, zJ_sJ, zJ_sR, zR_sI, zR_sJ, zR_sR, zK_sI, zK_sJ, zK_sR, zL_sI, zL_sJ, zL_sR, zI_aI, zJ_aI, zR_aI, zK_aI, zL_aI, z2_at, z2_a, z2_k, z1_self, z1_ne, true_and, and_true]
      refine (lp_sb (st := fun j => ((iI j, h) : Int32 × Zh)) (kpP (offm (fmask (pc p) k) w sh) i) 0 1 (fun j => ((iI j, h) : Int32 × Zh)) ((iI n, h) : Int32 × Zh) n rfl (by omega) ?_ ?_ ?_).trans ?_
      · intro j hj hP
        show bX0_keptCard_68 h d (iI i) (iI (offm (fmask (pc p) k) w sh)) (iI j) h = _
        unfold bX0_keptCard_68
        have hbc := bsum_c (offm (fmask (pc p) k) w sh) j
        simp (disch := (first | assumption | omega | decide)) only [zlet_eq, zc2_some, Option.bind_some, ↓si_m1, ↓si_m2, ↓si_m3, iI_lit, iI_add, iI_sub, iI_mul, si_le, si_lt, si_eq, si_zin, si_clamp, Int.toNat_natCast, if_pos, if_neg, zI_sI, zI_sJ, zI_sR, zJ_sI, zJ_sJ, zJ_sR, zR_sI, zR_sJ, zR_sR, zK_sI, zK_sJ, zK_sR, zL_sI, zL_sJ, zL_sR, zI_aI, zJ_aI, zR_aI, zK_aI, zL_aI, z2_at, z2_a, z2_k, z1_self, z1_ne, true_and, and_true, k1, hc, ↓si_bit1]
        unfold kpP at hP
        cases e : (offm (fmask (pc p) k) w sh).testBit j
        · simp (disch := (first | assumption | omega | decide)) only [zlet_eq, zc2_some, Option.bind_some, ↓si_m1, ↓si_m2, ↓si_m3, iI_lit, iI_add, iI_sub, iI_mul, si_le, si_lt, si_eq, si_zin, si_clamp, Int.toNat_natCast, if_pos, if_neg, zI_sI, zI_sJ, zI_sR, zJ_sI, zJ_sJ, zJ_sR, zR_sI, zR_sJ, zR_sR, zK_sI, zK_sJ, zK_sR, zL_sI, zL_sJ, zL_sR, zI_aI, zJ_aI, zR_aI, zK_aI, zL_aI, z2_at, z2_a, z2_k, z1_self, z1_ne, true_and, and_true]
          rfl
        · rw [e] at hP
          simp at hP
          simp (disch := (first | assumption | omega | decide)) only [zlet_eq, zc2_some, Option.bind_some, ↓si_m1, ↓si_m2, ↓si_m3, iI_lit, iI_add, iI_sub, iI_mul, si_le, si_lt, si_eq, si_zin, si_clamp, Int.toNat_natCast, if_pos, if_neg, zI_sI, zI_sJ, zI_sR, zJ_sI, zJ_sJ, zJ_sR, zR_sI, zR_sJ, zR_sR, zK_sI, zK_sJ, zK_sR, zL_sI, zL_sJ, zL_sR, zI_aI, zJ_aI, zR_aI, zK_aI, zL_aI, z2_at, z2_a, z2_k, z1_self, z1_ne, true_and, and_true, fX0_lower_eq]
          rfl
      · intro j hj hP
        show bX0_keptCard_68 h d (iI i) (iI (offm (fmask (pc p) k) w sh)) (iI j) h = _
        unfold bX0_keptCard_68
        have hbc := bsum_c (offm (fmask (pc p) k) w sh) j
        simp (disch := (first | assumption | omega | decide)) only [zlet_eq, zc2_some, Option.bind_some, ↓si_m1, ↓si_m2, ↓si_m3, iI_lit, iI_add, iI_sub, iI_mul, si_le, si_lt, si_eq, si_zin, si_clamp, Int.toNat_natCast, if_pos, if_neg, zI_sI, zI_sJ, zI_sR, zJ_sI, zJ_sJ, zJ_sR, zR_sI, zR_sJ, zR_sR, zK_sI, zK_sJ, zK_sR, zL_sI, zL_sJ, zL_sR, zI_aI, zJ_aI, zR_aI, zK_aI, zL_aI, z2_at, z2_a, z2_k, z1_self, z1_ne, true_and, and_true, k1, hc, ↓si_bit1]
        unfold kpP at hP
        simp at hP
        simp (disch := (first | assumption | omega | decide)) only [zlet_eq, zc2_some, Option.bind_some, ↓si_m1, ↓si_m2, ↓si_m3, iI_lit, iI_add, iI_sub, iI_mul, si_le, si_lt, si_eq, si_zin, si_clamp, Int.toNat_natCast, if_pos, if_neg, zI_sI, zI_sJ, zI_sR, zJ_sI, zJ_sJ, zJ_sR, zR_sI, zR_sJ, zR_sR, zK_sI, zK_sJ, zK_sR, zL_sI, zL_sJ, zL_sR, zI_aI, zJ_aI, zR_aI, zK_aI, zL_aI, z2_at, z2_a, z2_k, z1_self, z1_ne, true_and, and_true, fX0_lower_eq, hP.1]
      · show bX0_keptCard_68 h d (iI i) _ (iI n) h = _
        unfold bX0_keptCard_68
        simp (disch := (first | assumption | omega | decide)) only [zlet_eq, zc2_some, Option.bind_some, ↓si_m1, ↓si_m2, ↓si_m3, iI_lit, iI_add, iI_sub, iI_mul, si_le, si_lt, si_eq, si_zin, si_clamp, Int.toNat_natCast, if_pos, if_neg, zI_sI, zI_sJ, zI_sR, zJ_sI, zJ_sJ, zJ_sR, zR_sI, zR_sJ, zR_sR, zK_sI, zK_sJ, zK_sR, zL_sI, zL_sJ, zL_sR, zI_aI, zJ_aI, zR_aI, zK_aI, zL_aI, z2_at, z2_a, z2_k, z1_self, z1_ne, true_and, and_true, k1, hc]
      · split <;> rfl
