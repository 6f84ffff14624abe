/-! the class's deck: a row's cards, what a hand shows -/
theorem fX0_unpackRow_eq {d r n sh T L q : Nat} {h : Zh} (k1 : zK h d = 0) (k2 : zK h r = 100) (k3 : zL h r = L) (hL : L < 2147483648) (hrd : r ≠ d) (hc : zI h d 0 = iI n) (hs : zI h d 5 = iI sh) (hT : zI h d 12 = iI T) (hn : n ≤ 12) (hsh : sh ≤ 5) (hsn : sh ≤ n) (hsL : sh ≤ L) (hT0 : 0 < T) (hT1 : T < 2147483648) (hq : q < 2147483648) : fX0_unpackRow d (iI q) r h = some (zaI h r (fun j => if j < sh then iI (unp n sh (q / T) j) else zI h r j)) := by
  unfold fX0_unpackRow
  simp (disch := (first | assumption | omega | decide)) only [zlet_eq, zc2_some, Option.bind_some, ↓si_m1, ↓si_m2, ↓si_m3, iI_lit, iI_add, iI_sub, iI_mul, si_le, si_lt, si_eq, si_zin, si_clamp, Int.toNat_natCast, if_pos, if_neg, zI_sI, zI_sJ, zI_sR, zJ_sI, zJ_sJ, zJ_sR, zR_sI, zR_sJ, zR_sR, zK_sI, zK_sJ, zK_sR, zL_sI, zL_sJ, zL_sR, zI_aI, zJ_aI, zR_aI, zK_aI, zL_aI, z2_at, z2_a, z2_k, z1_self, z1_ne, true_and, and_true, k1, hT, hs, hc, si_divN]
  have hdr : d ≠ r := fun e => hrd e.symm
  have hqT : q / T < 2147483648 := Nat.lt_of_le_of_lt (Nat.div_le_self _ _) hq
  have hrs : ∀ t, rst n sh (q / T) t < 2147483648 := by
    intro t
    induction t with
    | zero => exact hqT
    | succ t ih => rw [rst]; exact Nat.lt_of_le_of_lt (Nat.div_le_self _ _) ih
  refine (lp_fb (st := fun t => ((iI (rst n sh (q / T) t), iI ((sh : Int) - 1 - t), zaI h r (fun j => if sh - t ≤ j ∧ j < sh then iI (dgt n sh (q / T) j) else zI h r j)) : Int32 × Int32 × Zh)) (e := 0) (s' := (iI (rst n sh (q / T) sh), iI (-1), zaI h r (fun j => if sh - sh ≤ j ∧ j < sh then iI (dgt n sh (q / T) j) else zI h r j))) sh ?_ (by omega) ?_ ?_).trans ?_
  · have e : (fun j => if sh - 0 ≤ j ∧ j < sh then iI (dgt n sh (q / T) j) else zI h r j) = zI h r := by
      funext j
      rw [if_neg (by omega)]
    simp only [e, zaI_self]
    simp [rst]
  · intro t ht
    show bX0_unpackRow_15 h d r (iI (rst n sh (q / T) t)) (iI ((sh : Int) - 1 - t)) (zaI h r (fun j => if sh - t ≤ j ∧ j < sh then iI (dgt n sh (q / T) j) else zI h r j)) = _
    unfold bX0_unpackRow_15
    have hrt := hrs t
    have e1 : (sh : Int) - 1 - t = ((sh - 1 - t : Nat) : Int) := by omega
    have e2 : (n : Int) - ((sh - 1 - t : Nat) : Int) = ((n - (sh - 1 - t) : Nat) : Int) := by omega
    rw [e1]
    simp (disch := (first | assumption | omega | decide)) only [zlet_eq, zc2_some, Option.bind_some, ↓si_m1, ↓si_m2, ↓si_m3, iI_lit, iI_add, iI_sub, iI_mul, si_le, si_lt, si_eq, si_zin, si_clamp, Int.toNat_natCast, if_pos, if_neg, zI_sI, zI_sJ, zI_sR, zJ_sI, zJ_sJ, zJ_sR, zR_sI, zR_sJ, zR_sR, zK_sI, zK_sJ, zK_sR, zL_sI, zL_sJ, zL_sR, zI_aI, zJ_aI, zR_aI, zK_aI, zL_aI, z2_at, z2_a, z2_k, z1_self, z1_ne, true_and, and_true, k1, k2, k3, hc, e2, si_divN, si_remN, zsI_aI]
    rw [show rst n sh (q / T) (t + 1) = rst n sh (q / T) t / (n - (sh - 1 - t)) from rfl, show ((sh - 1 - t : Nat) : Int) + -1 = (sh : Int) - 1 - ((t + 1 : Nat) : Int) by omega]
    congr 5
    funext j
    unfold z1
    dsimp only
    by_cases c : j = sh - 1 - t
    · rw [if_pos c, if_pos (by omega), c]
      unfold dgt
      rw [show sh - 1 - (sh - 1 - t) = t by omega]
    · rw [if_neg c]
      by_cases c2 : sh - t ≤ j ∧ j < sh
      · rw [if_pos c2, if_pos (by omega)]
      · rw [if_neg c2, if_neg (by omega)]
  · show bX0_unpackRow_15 h d r (iI (rst n sh (q / T) sh)) (iI ((sh : Int) - 1 - sh)) _ = _
    unfold bX0_unpackRow_15
    rw [show (sh : Int) - 1 - sh = -1 by omega]
    simp (disch := (first | assumption | omega | decide)) only [zlet_eq, zc2_some, Option.bind_some, ↓si_m1, ↓si_m2, ↓si_m3, iI_lit, iI_add, iI_sub, iI_mul, si_le, si_lt, si_eq, si_zin, si_clamp, Int.toNat_natCast, if_pos, if_neg, zI_sI, zI_sJ, zI_sR, zJ_sI, zJ_sJ, zJ_sR, zR_sI, zR_sJ, zR_sR, zK_sI, zK_sJ, zK_sR, zL_sI, zL_sJ, zL_sR, zI_aI, zJ_aI, zR_aI, zK_aI, zL_aI, z2_at, z2_a, z2_k, z1_self, z1_ne, true_and, and_true]
  · show kX0_unpackRow_15 h d r 1 _ _ _ = _
    unfold kX0_unpackRow_15
    simp (disch := (first | assumption | omega | decide)) only [zlet_eq, zc2_some, Option.bind_some, ↓si_m1, ↓si_m2, ↓si_m3, iI_lit, iI_add, iI_sub, iI_mul, si_le, si_lt, si_eq, si_zin, si_clamp, Int.toNat_natCast, if_pos, if_neg, zI_sI, zI_sJ, zI_sR, zJ_sI, zJ_sJ, zJ_sR, zR_sI, zR_sJ, zR_sR, zK_sI, zK_sJ, zK_sR, zL_sI, zL_sJ, zL_sR, zI_aI, zJ_aI, zR_aI, zK_aI, zL_aI, z2_at, z2_a, z2_k, z1_self, z1_ne, true_and, and_true]
    refine (lp_fb (st := fun t => ((iI (umask n (dgt n sh (q / T)) t), iI t, zaI h r (fun j => if j < t then iI (unp n sh (q / T) j) else if j < sh then iI (dgt n sh (q / T) j) else zI h r j)) : Int32 × Int32 × Zh)) (e := 0) (s' := (iI (umask n (dgt n sh (q / T)) sh), iI sh, zaI h r (fun j => if j < sh then iI (unp n sh (q / T) j) else if j < sh then iI (dgt n sh (q / T) j) else zI h r j))) sh ?_ (by omega) ?_ ?_).trans ?_
    · show (_ , _, _) = _
      simp [umask]
    · intro t ht
      show bX0_unpackRow_55 h d r (iI (umask n (dgt n sh (q / T)) t)) (iI t) (zaI h r (fun j => if j < t then iI (unp n sh (q / T) j) else if j < sh then iI (dgt n sh (q / T) j) else zI h r j)) = _
      obtain ⟨g1, g2⟩ := unp_ok (n := n) (sh := sh) (q := q / T) hsn
      have hm : umask n (dgt n sh (q / T)) t < 4096 := by
        rw [← umask_f]
        exact fmask_lt (N := 12) t (fun j hj => by have := g2 j (by omega); unfold unp at this; omega)
      have hdl := dgt_lt (n := n) (sh := sh) (q := q / T) (i := t) (by omega)
      have hul := g2 t ht
      unfold bX0_unpackRow_55
      simp (disch := (first | assumption | omega | decide)) only [zlet_eq, zc2_some, Option.bind_some, ↓si_m1, ↓si_m2, ↓si_m3, iI_lit, iI_add, iI_sub, iI_mul, si_le, si_lt, si_eq, si_zin, si_clamp, Int.toNat_natCast, if_pos, if_neg, zI_sI, zI_sJ, zI_sR, zJ_sI, zJ_sJ, zJ_sR, zR_sI, zR_sJ, zR_sR, zK_sI, zK_sJ, zK_sR, zL_sI, zL_sJ, zL_sR, zI_aI, zJ_aI, zR_aI, zK_aI, zL_aI, z2_at, z2_a, z2_k, z1_self, z1_ne, true_and, and_true, k1, k2, k3, hs, Nat.lt_irrefl]
      rw [fX0_unusedCard_eq (n := n) (by simp (disch := (first | assumption | omega | decide)) only [zlet_eq, zc2_some, Option.bind_some, ↓si_m1, ↓si_m2, ↓si_m3, iI_lit, iI_add, iI_sub, iI_mul, si_le, si_lt, si_eq, si_zin, si_clamp, Int.toNat_natCast, if_pos, if_neg, zI_sI, zI_sJ, zI_sR, zJ_sI, zJ_sJ, zJ_sR, zR_sI, zR_sJ, zR_sR, zK_sI, zK_sJ, zK_sR, zL_sI, zL_sJ, zL_sR, zI_aI, zJ_aI, zR_aI, zK_aI, zL_aI, z2_at, z2_a, z2_k, z1_self, z1_ne, true_and, and_true, k1]) (by simp (disch := (first | assumption | omega | decide)) only [zlet_eq, zc2_some, Option.bind_some, ↓si_m1, ↓si_m2, ↓si_m3, iI_lit, iI_add, iI_sub, iI_mul, si_le, si_lt, si_eq, si_zin, si_clamp, Int.toNat_natCast, if_pos, if_neg, zI_sI, zI_sJ, zI_sR, zJ_sI, zJ_sJ, zJ_sR, zR_sI, zR_sJ, zR_sR, zK_sI, zK_sJ, zK_sR, zL_sI, zL_sJ, zL_sR, zI_aI, zJ_aI, zR_aI, zK_aI, zL_aI, z2_at, z2_a, z2_k, z1_self, z1_ne, true_and, and_true, hc]) hn hm (by omega)]
      rw [show zfst (uP (umask n (dgt n sh (q / T)) t) (dgt n sh (q / T) t)) n = unp n sh (q / T) t from rfl, if_pos hul]
      simp (disch := (first | assumption | omega | decide)) only [zlet_eq, zc2_some, Option.bind_some, ↓si_m1, ↓si_m2, ↓si_m3, iI_lit, iI_add, iI_sub, iI_mul, si_le, si_lt, si_eq, si_zin, si_clamp, Int.toNat_natCast, if_pos, if_neg, zI_sI, zI_sJ, zI_sR, zJ_sI, zJ_sJ, zJ_sR, zR_sI, zR_sJ, zR_sR, zK_sI, zK_sJ, zK_sR, zL_sI, zL_sJ, zL_sR, zI_aI, zJ_aI, zR_aI, zK_aI, zL_aI, z2_at, z2_a, z2_k, z1_self, z1_ne, true_and, and_true, zsI_aI, si_one, iI_or]
      congr 5
      funext j
      unfold z1
      dsimp only
      by_cases c : j = t
      · rw [if_pos c, if_pos (by omega), c]
      · rw [if_neg c]
        by_cases c2 : j < t
        · rw [if_pos c2, if_pos (by omega)]
        · have c3 : ¬ j < t + 1 := by omega
          rw [if_neg c2, if_neg c3]
    · show bX0_unpackRow_55 h d r _ (iI sh) _ = _
      unfold bX0_unpackRow_55
      simp (disch := (first | assumption | omega | decide)) only [zlet_eq, zc2_some, Option.bind_some, ↓si_m1, ↓si_m2, ↓si_m3, iI_lit, iI_add, iI_sub, iI_mul, si_le, si_lt, si_eq, si_zin, si_clamp, Int.toNat_natCast, if_pos, if_neg, zI_sI, zI_sJ, zI_sR, zJ_sI, zJ_sJ, zJ_sR, zR_sI, zR_sJ, zR_sR, zK_sI, zK_sJ, zK_sR, zL_sI, zL_sJ, zL_sR, zI_aI, zJ_aI, zR_aI, zK_aI, zL_aI, z2_at, z2_a, z2_k, z1_self, z1_ne, true_and, and_true, hs]
    · show some (zaI h r _) = some _
      congr 2
      funext j
      by_cases c : j < sh
      · rw [if_pos c, if_pos c]
      · rw [if_neg c, if_neg c, if_neg c]
/-- the first place from one on of a hand where a card lies, as steps from there -/
def pli (c : Nat → Nat) (x f k : Nat) : Nat := zfst (fun j => decide (c (f + j) = x)) (k - f)
theorem fX0_placeIn_eq {d p x f k : Nat} {h : Zh} (k1 : zK h d = 0) (hk : zI h d 3 = iI k) (hk5 : k ≤ 5) (hp : p < 2147483648) (hx : x < 2147483648) (hf : f ≤ k) : fX0_placeIn d (iI p) (iI x) (iI f) h = some (if pli (pc p) x f k < k - f then iI ((f + pli (pc p) x f k : Nat) : Int) else iI (-1), h) := by
  unfold fX0_placeIn
  simp (disch := (first | assumption | omega | decide)) only [zlet_eq, zc2_some, Option.bind_some, ↓si_m1, ↓si_m2, ↓si_m3, iI_lit, iI_add, iI_sub, iI_mul, si_le, si_lt, si_eq, si_zin, si_clamp, Int.toNat_natCast, if_pos, if_neg, zI_sI, zI_sJ, zI_sR, zJ_sI, zJ_sJ, zJ_sR, zR_sI, zR_sJ, zR_sR, zK_sI, zK_sJ, zK_sR, zL_sI, zL_sJ, zL_sR, zI_aI, zJ_aI, zR_aI, zK_aI, zL_aI, z2_at, z2_a, z2_k, z1_self, z1_ne, true_and, and_true]
  refine (lp_sb (st := fun j => ((iI ((f + j : Nat) : Int), h) : Int32 × Zh)) (fun j => decide (pc p (f + j) = x)) 0 1 (fun j => ((iI ((f + j : Nat) : Int), h) : Int32 × Zh)) ((iI k, h) : Int32 × Zh) (k - f) rfl (by omega) ?_ ?_ ?_).trans ?_
  · intro j hj hP
    show bX0_placeIn_3 h d (iI p) (iI x) (iI ((f + j : Nat) : Int)) h = _
    unfold bX0_placeIn_3
    have h15 : pc p (f + j) < 16 := Nat.mod_lt _ (by decide)
    have hP2 : ¬ (pc p (f + j) = x) := of_decide_eq_false hP
    rw [fX0_cardAt_eq hp (by omega)]
    simp (disch := (first | assumption | omega | decide)) only [zlet_eq, zc2_some, Option.bind_some, ↓si_m1, ↓si_m2, ↓si_m3, iI_lit, iI_add, iI_sub, iI_mul, si_le, si_lt, si_eq, si_zin, si_clamp, Int.toNat_natCast, if_pos, if_neg, zI_sI, zI_sJ, zI_sR, zJ_sI, zJ_sJ, zJ_sR, zR_sI, zR_sJ, zR_sR, zK_sI, zK_sJ, zK_sR, zL_sI, zL_sJ, zL_sR, zI_aI, zJ_aI, zR_aI, zK_aI, zL_aI, z2_at, z2_a, z2_k, z1_self, z1_ne, true_and, and_true, k1, hk]
    rfl
  · intro j hj hP
    show bX0_placeIn_3 h d (iI p) (iI x) (iI ((f + j : Nat) : Int)) h = _
    unfold bX0_placeIn_3
    have h15 : pc p (f + j) < 16 := Nat.mod_lt _ (by decide)
    have hP2 : pc p (f + j) = x := of_decide_eq_true hP
    rw [fX0_cardAt_eq hp (by omega)]
    simp (disch := (first | assumption | omega | decide)) only [zlet_eq, zc2_some, Option.bind_some, ↓si_m1, ↓si_m2, ↓si_m3, iI_lit, iI_add, iI_sub, iI_mul, si_le, si_lt, si_eq, si_zin, si_clamp, Int.toNat_natCast, if_pos, if_neg, zI_sI, zI_sJ, zI_sR, zJ_sI, zJ_sJ, zJ_sR, zR_sI, zR_sJ, zR_sR, zK_sI, zK_sJ, zK_sR, zL_sI, zL_sJ, zL_sR, zI_aI, zJ_aI, zR_aI, zK_aI, zL_aI, z2_at, z2_a, z2_k, z1_self, z1_ne, true_and, and_true, k1, hk]
  · show bX0_placeIn_3 h d (iI p) (iI x) (iI ((f + (k - f) : Nat) : Int)) h = _
    unfold bX0_placeIn_3
    rw [show f + (k - f) = k by omega]
    simp (disch := (first | assumption | omega | decide)) only [zlet_eq, zc2_some, Option.bind_some, ↓si_m1, ↓si_m2, ↓si_m3, iI_lit, iI_add, iI_sub, iI_mul, si_le, si_lt, si_eq, si_zin, si_clamp, Int.toNat_natCast, if_pos, if_neg, zI_sI, zI_sJ, zI_sR, zJ_sI, zJ_sJ, zJ_sR, zR_sI, zR_sJ, zR_sR, zK_sI, zK_sJ, zK_sR, zL_sI, zL_sJ, zL_sR, zI_aI, zJ_aI, zR_aI, zK_aI, zL_aI, z2_at, z2_a, z2_k, z1_self, z1_ne, true_and, and_true, k1, hk]
  · unfold pli
    split
    · rfl
    · rfl
/-- where a stranger's hand is looked at from -/
def frm (st : Bool) (c w : Nat → Nat) (k : Nat) : Nat → Nat
  | 0 => 0
  | i + 1 => (if st then frm st c w k i else 0) + pli c (w i) (if st then frm st c w k i else 0) k + 1
def frs (st : Bool) (c w : Nat → Nat) (k i : Nat) : Nat := if st then frm st c w k i else 0
def unfit (st hd : Bool) (c w : Nat → Nat) (k i : Nat) : Bool := !decide (pli c (w i) (frs st c w k i) k < k - frs st c w k i) || (hd && decide (0 < i) && decide (w i < w (i - 1)))
def bI (b : Bool) : Int := if b then 1 else 0
theorem frs_le {st hd : Bool} {c w : Nat → Nat} {k : Nat} : ∀ i, (∀ j, j < i → unfit st hd c w k j = false) → frm st c w k i ≤ k
  | 0, _ => by simp [frm]
  | i + 1, h => by
    have ih := frs_le i (fun j hj => h j (by omega))
    have h1 := h i (by omega)
    unfold unfit frs at h1
    simp at h1
    rw [frm]
    have := h1.1
    split at this <;> split <;> first | omega | simp_all
theorem fX0_isShownOf_eq {d r p k sh L : Nat} {st hd : Bool} {w : Nat → Nat} {h : Zh} (k1 : zK h d = 0) (k2 : zK h r = 100) (k3 : zL h r = L) (hL : L < 2147483648) (hk : zI h d 3 = iI k) (hs : zI h d 5 = iI sh) (h6 : zI h d 6 = iI (bI st)) (h7 : zI h d 7 = iI (bI hd)) (hk5 : k ≤ 5) (hsh : sh ≤ 5) (hsL : sh ≤ L) (hp : p < 2147483648) (hw : ∀ i, i < sh → zI h r i = iI (w i) ∧ w i < 2147483648) : fX0_isShownOf d r (iI p) h = some (if zfst (unfit st hd (pc p) w k) sh < sh then iI 0 else iI 1, h) := by
  unfold fX0_isShownOf
  simp (disch := (first | assumption | omega | decide)) only [zlet_eq, zc2_some, Option.bind_some, ↓si_m1, ↓si_m2, ↓si_m3, iI_lit, iI_add, iI_sub, iI_mul, si_le, si_lt, si_eq, si_zin, si_clamp, Int.toNat_natCast, if_pos, if_neg, zI_sI, zI_sJ, zI_sR, zJ_sI, zJ_sJ, zJ_sR, zR_sI, zR_sJ, zR_sR, zK_sI, zK_sJ, zK_sR, zL_sI, zL_sJ, zL_sR, zI_aI, zJ_aI, zR_aI, zK_aI, zL_aI, z2_at, z2_a, z2_k, z1_self, z1_ne, true_and, and_true]
  have hb6 : (iI (bI st) = iI 0) ↔ st = false := by cases st <;> decide
  have hb7 : (iI (bI hd) = iI 0) ↔ hd = false := by cases hd <;> decide
  have body : ∀ i, i < sh → (∀ j, j < i → unfit st hd (pc p) w k j = false) → ∃ y z, bX0_isShownOf_5 h d r (iI p) (iI (frm st (pc p) w k i)) (iI i) h = if unfit st hd (pc p) w k i then some (1, y, z, h) else some (0, (iI (frm st (pc p) w k (i + 1)), iI ((i + 1 : Nat) : Int), h)) := by
    intro i hi hu
    have hfl := frs_le i hu
    have hw1 := (hw i hi).1
    have hw2 := (hw i hi).2
    refine ⟨iI 0, iI i, ?_⟩
    have hj : ∀ f, f = frs st (pc p) w k i → f ≤ k → jX0_isShownOf_32 h d r (iI p) (iI i) (iI f) (iI (w i)) (iI p) d h = if unfit st hd (pc p) w k i then some (1, iI 0, iI i, h) else some (0, (iI (frm st (pc p) w k (i + 1)), iI ((i + 1 : Nat) : Int), h)) := by
      intro f hf hfk
      unfold jX0_isShownOf_32
      rw [fX0_placeIn_eq k1 hk hk5 hp hw2 hfk]
      have e2 : frm st (pc p) w k (i + 1) = f + pli (pc p) (w i) f k + 1 := by rw [frm, hf]; rfl
      rw [e2]
      unfold unfit
      rw [← hf]
      simp (disch := (first | assumption | omega | decide)) only [zlet_eq, zc2_some, Option.bind_some, ↓si_m1, ↓si_m2, ↓si_m3, iI_lit, iI_add, iI_sub, iI_mul, si_le, si_lt, si_eq, si_zin, si_clamp, Int.toNat_natCast, if_pos, if_neg, zI_sI, zI_sJ, zI_sR, zJ_sI, zJ_sJ, zJ_sR, zR_sI, zR_sJ, zR_sR, zK_sI, zK_sJ, zK_sR, zL_sI, zL_sJ, zL_sR, zI_aI, zJ_aI, zR_aI, zK_aI, zL_aI, z2_at, z2_a, z2_k, z1_self, z1_ne, true_and, and_true, k1, k2, k3, h7]
      have hpl : pli (pc p) (w i) f k ≤ k - f := zfst_le _ _
      by_cases c : pli (pc p) (w i) f k < k - f
      · simp (disch := (first | assumption | omega | decide)) only [zlet_eq, zc2_some, Option.bind_some, ↓si_m1, ↓si_m2, ↓si_m3, iI_lit, iI_add, iI_sub, iI_mul, si_le, si_lt, si_eq, si_zin, si_clamp, Int.toNat_natCast, if_pos, if_neg, zI_sI, zI_sJ, zI_sR, zJ_sI, zJ_sJ, zJ_sR, zR_sI, zR_sJ, zR_sR, zK_sI, zK_sJ, zK_sR, zL_sI, zL_sJ, zL_sR, zI_aI, zJ_aI, zR_aI, zK_aI, zL_aI, z2_at, z2_a, z2_k, z1_self, z1_ne, true_and, and_true, c, hb7]
        cases hd
        · simp (disch := (first | assumption | omega | decide)) only [zlet_eq, zc2_some, Option.bind_some, ↓si_m1, ↓si_m2, ↓si_m3, iI_lit, iI_add, iI_sub, iI_mul, si_le, si_lt, si_eq, si_zin, si_clamp, Int.toNat_natCast, if_pos, if_neg, zI_sI, zI_sJ, zI_sR, zJ_sI, zJ_sJ, zJ_sR, zR_sI, zR_sJ, zR_sR, zK_sI, zK_sJ, zK_sR, zL_sI, zL_sJ, zL_sR, zI_aI, zJ_aI, zR_aI, zK_aI, zL_aI, z2_at, z2_a, z2_k, z1_self, z1_ne, true_and, and_true]
          simp [c]
        · by_cases c0 : i = 0
          · subst c0
            simp (disch := (first | assumption | omega | decide)) only [zlet_eq, zc2_some, Option.bind_some, ↓si_m1, ↓si_m2, ↓si_m3, iI_lit, iI_add, iI_sub, iI_mul, si_le, si_lt, si_eq, si_zin, si_clamp, Int.toNat_natCast, if_pos, if_neg, zI_sI, zI_sJ, zI_sR, zJ_sI, zJ_sJ, zJ_sR, zR_sI, zR_sJ, zR_sR, zK_sI, zK_sJ, zK_sR, zL_sI, zL_sJ, zL_sR, zI_aI, zJ_aI, zR_aI, zK_aI, zL_aI, z2_at, z2_a, z2_k, z1_self, z1_ne, true_and, and_true]
            simp [c]
          · have hwp := (hw (i - 1) (by omega)).1
            have hwp2 := (hw (i - 1) (by omega)).2
            have e3 : (i : Int) - 1 = ((i - 1 : Nat) : Int) := by omega
            simp (disch := (first | assumption | omega | decide)) only [zlet_eq, zc2_some, Option.bind_some, ↓si_m1, ↓si_m2, ↓si_m3, iI_lit, iI_add, iI_sub, iI_mul, si_le, si_lt, si_eq, si_zin, si_clamp, Int.toNat_natCast, if_pos, if_neg, zI_sI, zI_sJ, zI_sR, zJ_sI, zJ_sJ, zJ_sR, zR_sI, zR_sJ, zR_sR, zK_sI, zK_sJ, zK_sR, zL_sI, zL_sJ, zL_sR, zI_aI, zJ_aI, zR_aI, zK_aI, zL_aI, z2_at, z2_a, z2_k, z1_self, z1_ne, true_and, and_true, e3, hw1, hwp]
            have c1 : 0 < i := by omega
            by_cases c3 : w (i - 1) ≤ w i
            · have c4 : ¬ w i < w (i - 1) := by omega
              simp [c3, c, c1, c4]
            · have c4 : w i < w (i - 1) := by omega
              simp [c3, c, c1, c4]
      · simp (disch := (first | assumption | omega | decide)) only [zlet_eq, zc2_some, Option.bind_some, ↓si_m1, ↓si_m2, ↓si_m3, iI_lit, iI_add, iI_sub, iI_mul, si_le, si_lt, si_eq, si_zin, si_clamp, Int.toNat_natCast, if_pos, if_neg, zI_sI, zI_sJ, zI_sR, zJ_sI, zJ_sJ, zJ_sR, zR_sI, zR_sJ, zR_sR, zK_sI, zK_sJ, zK_sR, zL_sI, zL_sJ, zL_sR, zI_aI, zJ_aI, zR_aI, zK_aI, zL_aI, z2_at, z2_a, z2_k, z1_self, z1_ne, true_and, and_true, c]
        simp [c]
    unfold bX0_isShownOf_5
    simp (disch := (first | assumption | omega | decide)) only [zlet_eq, zc2_some, Option.bind_some, ↓si_m1, ↓si_m2, ↓si_m3, iI_lit, iI_add, iI_sub, iI_mul, si_le, si_lt, si_eq, si_zin, si_clamp, Int.toNat_natCast, if_pos, if_neg, zI_sI, zI_sJ, zI_sR, zJ_sI, zJ_sJ, zJ_sR, zR_sI, zR_sJ, zR_sR, zK_sI, zK_sJ, zK_sR, zL_sI, zL_sJ, zL_sR, zI_aI, zJ_aI, zR_aI, zK_aI, zL_aI, z2_at, z2_a, z2_k, z1_self, z1_ne, true_and, and_true, k1, k2, k3, hs, hw1, h6, hb6]
    cases st
    · rw [if_pos rfl]
      exact hj 0 rfl (by omega)
    · rw [if_neg (by decide)]
      exact hj _ rfl hfl
  have hz := zfst_le (unfit st hd (pc p) w k) sh
  by_cases c : zfst (unfit st hd (pc p) w k) sh < sh
  · rw [if_pos c]
    obtain ⟨y, z, hb⟩ := body _ c (fun j hj => zfst_before hj)
    rw [zfst_at c, if_pos rfl] at hb
    refine (lp_fb (st := fun i => ((iI (frm st (pc p) w k i), iI i, h) : Int32 × Int32 × Zh)) (e := 0) (s' := (y, z, h)) (zfst (unfit st hd (pc p) w k) sh) rfl (by omega) ?_ hb).trans rfl
    intro i hi
    obtain ⟨y, z, hb⟩ := body i (by omega) (fun j hj => zfst_before (show j < zfst (unfit st hd (pc p) w k) sh by omega))
    rw [zfst_before hi, if_neg (by decide)] at hb
    exact hb
  · rw [if_neg c]
    have cn : zfst (unfit st hd (pc p) w k) sh = sh := by omega
    refine (lp_fb (st := fun i => ((iI (frm st (pc p) w k i), iI i, h) : Int32 × Int32 × Zh)) (e := 1) (s' := (iI (frm st (pc p) w k sh), iI sh, h)) sh rfl (by omega) ?_ ?_).trans rfl
    · intro i hi
      obtain ⟨y, z, hb⟩ := body i (by omega) (fun j hj => zfst_before (show j < zfst (unfit st hd (pc p) w k) sh by omega))
      rw [zfst_before (show i < zfst (unfit st hd (pc p) w k) sh by omega), if_neg (by decide)] at hb
      exact hb
    · show bX0_isShownOf_5 h d r (iI p) _ (iI sh) h = _
      unfold bX0_isShownOf_5
      simp (disch := (first | assumption | omega | decide)) only [zlet_eq, zc2_some, Option.bind_some, ↓si_m1, ↓si_m2, ↓si_m3, iI_lit, iI_add, iI_sub, iI_mul, si_le, si_lt, si_eq, si_zin, si_clamp, Int.toNat_natCast, if_pos, if_neg, zI_sI, zI_sJ, zI_sR, zJ_sI, zJ_sJ, zJ_sR, zR_sI, zR_sJ, zR_sR, zK_sI, zK_sJ, zK_sR, zL_sI, zL_sJ, zL_sR, zI_aI, zJ_aI, zR_aI, zK_aI, zL_aI, z2_at, z2_a, z2_k, z1_self, z1_ne, true_and, and_true, k1, hs]
