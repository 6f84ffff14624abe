/-! tools of the pure side -/
theorem si_zin {a : Int} {n : Nat} (h1 : -2147483648 ≤ a) (h2 : a < 2147483648) : zin (iI a) n ↔ (0 ≤ a ∧ a < (n : Int)) := by
  unfold zin
  rw [si_toInt h1 h2]
theorem si_m3 : (-3 : Int32) = iI (-3) := rfl
def zfst (P : Nat → Bool) : Nat → Nat
  | 0 => 0
  | n + 1 => if zfst P n < n then zfst P n else if P n then n else n + 1
theorem zfst_all (P : Nat → Bool) : ∀ n, zfst P n ≤ n ∧ (∀ i, i < zfst P n → P i = false) ∧ (zfst P n < n → P (zfst P n) = true)
  | 0 => ⟨Nat.le_refl _, fun i hi => absurd hi (Nat.not_lt_zero _), fun h => absurd h (Nat.not_lt_zero _)⟩
  | n + 1 => by
    obtain ⟨h1, h2, h3⟩ := zfst_all P n
    rw [zfst]
    by_cases c : zfst P n < n
    · rw [if_pos c]
      exact ⟨by omega, h2, fun _ => h3 c⟩
    · have e : zfst P n = n := by omega
      rw [if_neg c]
      rw [e] at h2
      cases hp : P n
      · rw [if_neg (by decide)]
        refine ⟨by omega, fun i hi => ?_, fun h => by omega⟩
        by_cases ei : i = n
        · rw [ei]; exact hp
        · exact h2 i (by omega)
      · rw [if_pos rfl]
        exact ⟨by omega, h2, fun _ => hp⟩
theorem zfst_le (P : Nat → Bool) (n : Nat) : zfst P n ≤ n := (zfst_all P n).1
theorem zfst_before {P : Nat → Bool} {n i : Nat} (h : i < zfst P n) : P i = false := (zfst_all P n).2.1 i h
theorem zfst_at {P : Nat → Bool} {n : Nat} (h : zfst P n < n) : P (zfst P n) = true := (zfst_all P n).2.2 h
theorem zfst_eq {P : Nat → Bool} {n m : Nat} (h1 : m ≤ n) (h2 : ∀ i, i < m → P i = false) (h3 : m < n → P m = true) : zfst P n = m := by
  obtain ⟨g1, g2, g3⟩ := zfst_all P n
  rcases Nat.lt_trichotomy (zfst P n) m with c | c | c
  · have a := g3 (by omega)
    rw [h2 _ c] at a
    cases a
  · exact c
  · have a := h3 (by omega)
    rw [g2 _ c] at a
    cases a
theorem zfst_none {P : Nat → Bool} {n : Nat} (h : ∀ i, i < n → P i = false) : zfst P n = n := zfst_eq (Nat.le_refl _) h (fun h => absurd h (Nat.lt_irrefl _))
theorem lp_for0 {S : Type} {body : S → Option (Nat × S)} {s0 : S} (st : Nat → S) {e : Nat} {s' : S} (n : Nat) (h0 : s0 = st 0) (hn : n < 2 ^ 62) (hs : ∀ i, i < n → body (st i) = some (0, st (i + 1))) (hx : body (st n) = some (e + 1, s')) : lp body zB s0 = some (e + 1, s') := by rw [h0]; exact lp_for st n hn hs hx
theorem lp_fb {S β : Type} {body : S → Option (Nat × S)} {s0 : S} {k : Nat × S → Option β} (st : Nat → S) (e : Nat) {s' : S} (n : Nat) (h0 : s0 = st 0) (hn : n < 2 ^ 62) (hs : ∀ i, i < n → body (st i) = some (0, st (i + 1))) (hx : body (st n) = some (e + 1, s')) : (lp body zB s0).bind k = k (e + 1, s') := lp_bd (lp_for0 st n h0 hn hs hx)
theorem lp_sb {S β : Type} {body : S → Option (Nat × S)} {s0 : S} {k : Nat × S → Option β} (st : Nat → S) (P : Nat → Bool) (e1 e2 : Nat) (s1 : Nat → S) (s2 : S) (n : Nat) (h0 : s0 = st 0) (hn : n < 2 ^ 62) (hs : ∀ i, i < n → P i = false → body (st i) = some (0, st (i + 1))) (hf : ∀ i, i < n → P i = true → body (st i) = some (e1 + 1, s1 i)) (hx : body (st n) = some (e2 + 1, s2)) : (lp body zB s0).bind k = if zfst P n < n then k (e1 + 1, s1 (zfst P n)) else k (e2 + 1, s2) := by
  have hl := zfst_le P n
  by_cases c : zfst P n < n
  · rw [if_pos c]
    exact lp_fb st e1 (zfst P n) h0 (by omega) (fun i hi => hs i (by omega) (zfst_before hi)) (hf _ c (zfst_at c))
  · rw [if_neg c]
    have e : zfst P n = n := by omega
    exact lp_fb st e2 n h0 hn (fun i hi => hs i hi (zfst_before (by rw [e]; exact hi))) hx
/-- all but the ints of some cells stays -/
def Fm (S : List Nat) (h h' : Zh) : Prop := h'.1 = h.1 ∧ zK h' = zK h ∧ zL h' = zL h ∧ zJ h' = zJ h ∧ zR h' = zR h ∧ ∀ a, a ∉ S → zI h' a = zI h a
theorem Fm.rf {S : List Nat} {h : Zh} : Fm S h h := ⟨rfl, rfl, rfl, rfl, rfl, fun _ _ => rfl⟩
theorem Fm.tr {S : List Nat} {a b c : Zh} (p : Fm S a b) (q : Fm S b c) : Fm S a c := ⟨q.1.trans p.1, q.2.1.trans p.2.1, q.2.2.1.trans p.2.2.1, q.2.2.2.1.trans p.2.2.2.1, q.2.2.2.2.1.trans p.2.2.2.2.1, fun x hx => (q.2.2.2.2.2 x hx).trans (p.2.2.2.2.2 x hx)⟩
theorem Fm.mono {S T : List Nat} {a b : Zh} (p : Fm S a b) (hs : ∀ x, x ∈ S → x ∈ T) : Fm T a b := ⟨p.1, p.2.1, p.2.2.1, p.2.2.2.1, p.2.2.2.2.1, fun x hx => p.2.2.2.2.2 x (fun m => hx (hs x m))⟩
theorem Fm.K {S : List Nat} {a b : Zh} (p : Fm S a b) : zK b = zK a := p.2.1
theorem Fm.L {S : List Nat} {a b : Zh} (p : Fm S a b) : zL b = zL a := p.2.2.1
theorem Fm.J {S : List Nat} {a b : Zh} (p : Fm S a b) : zJ b = zJ a := p.2.2.2.1
theorem Fm.R {S : List Nat} {a b : Zh} (p : Fm S a b) : zR b = zR a := p.2.2.2.2.1
theorem Fm.I {S : List Nat} {a b : Zh} (p : Fm S a b) {x : Nat} (hx : x ∉ S) : zI b x = zI a x := p.2.2.2.2.2 x hx
theorem Fm_aI {S : List Nat} (h : Zh) {a : Nat} (f : Nat → Int32) (ha : a ∈ S) : Fm S h (zaI h a f) := ⟨rfl, rfl, rfl, rfl, rfl, fun x hx => by rw [zI_aI]; exact z1_ne _ _ (fun e => hx (e ▸ ha))⟩
theorem Fm_sI {S : List Nat} (h : Zh) {a : Nat} (k : Nat) (v : Int32) (ha : a ∈ S) : Fm S h (zsI h a k v) := ⟨rfl, rfl, rfl, rfl, rfl, fun x hx => by rw [zI_sI]; exact z2_row _ _ _ (fun e => hx (e ▸ ha))⟩
theorem zsI_aI (h : Zh) (a k : Nat) (f : Nat → Int32) (v : Int32) : zsI (zaI h a f) a k v = zaI h a (z1 f k v) := by
  show (h.1, zK h, zL h, z2 (z1 (zI h) a f) a k v, zJ h, zR h) = (h.1, zK h, zL h, z1 (zI h) a (z1 f k v), zJ h, zR h)
  have e : z2 (z1 (zI h) a f) a k v = z1 (zI h) a (z1 f k v) := by
    funext x y
    unfold z2 z1
    by_cases c : x = a
    · by_cases d : y = k
      · simp [c, d]
      · simp [c, d]
    · simp [c]
  rw [e]
theorem zsI_toA (h : Zh) (a k : Nat) (v : Int32) : zsI h a k v = zaI h a (z1 (zI h a) k v) := by
  have e : h = zaI h a (zI h a) := by
    show _ = (h.1, zK h, zL h, z1 (zI h) a (zI h a), zJ h, zR h)
    have e2 : z1 (zI h) a (zI h a) = zI h := by
      funext x
      unfold z1
      by_cases c : x = a
      · rw [if_pos c, c]
      · rw [if_neg c]
    rw [e2]
    rfl
  have e3 := zsI_aI h a k (zI h a) v
  rw [← e] at e3
  exact e3
theorem zaI_self (h : Zh) (a : Nat) : zaI h a (zI h a) = h := by
  show (h.1, zK h, zL h, z1 (zI h) a (zI h a), zJ h, zR h) = _
  have e2 : z1 (zI h) a (zI h a) = zI h := by
    funext x
    unfold z1
    by_cases c : x = a
    · rw [if_pos c, c]
    · rw [if_neg c]
  rw [e2]
  rfl
theorem zaI_aI (h : Zh) (a : Nat) (f g : Nat → Int32) : zaI (zaI h a f) a g = zaI h a g := by
  show (h.1, zK h, zL h, z1 (z1 (zI h) a f) a g, zJ h, zR h) = (h.1, zK h, zL h, z1 (zI h) a g, zJ h, zR h)
  have e : z1 (z1 (zI h) a f) a g = z1 (zI h) a g := by
    funext x
    unfold z1
    by_cases c : x = a
    · rw [if_pos c, if_pos c]
    · rw [if_neg c, if_neg c, if_neg c]
  rw [e]
/-! up to five numbers below 16 in one, the first lowest -/
def pkf (w : Nat → Nat) (i : Nat) : Nat → Nat
  | 0 => 0
  | k + 1 => w i + 16 * pkf w (i + 1) k
theorem pkf_lt {w : Nat → Nat} : ∀ (k i : Nat), (∀ j, i ≤ j → j < i + k → w j < 16) → pkf w i k < 16 ^ k
  | 0, i, _ => by simp [pkf]
  | k + 1, i, h => by
    have h1 := h i (Nat.le_refl _) (by omega)
    have h2 := pkf_lt k (i + 1) (fun j a b => h j (by omega) (by omega))
    rw [pkf, Nat.pow_succ]
    omega
theorem fX5_pack_eq {r0 rw n : Nat} {w : Nat → Nat} {h : Zh} (k1 : zK h r0 = 5) (k2 : zR h r0 0 = some rw) (k3 : zK h rw = 100) (k4 : zL h rw = 5) (hn : n ≤ 5) (hw : ∀ i, i < n → zI h rw i = iI (w i) ∧ w i < 16) : fX5_pack r0 (iI n) h = some (iI (pkf w 0 n), h) := by
  unfold fX5_pack
  simp (disch := (first | assumption | omega | decide)) only [zlet_eq, zc2_some, Option.bind_some, ↓si_m1, ↓si_m2, ↓si_m3, iI_lit, iI_add, iI_sub, iI_mul, si_le, si_lt, si_eq, si_zin, si_clamp, Int.toNat_natCast, if_pos, if_neg, zI_sI, zI_sJ, zI_sR, zJ_sI, zJ_sJ, zJ_sR, zR_sI, zR_sJ, zR_sR, zK_sI, zK_sJ, zK_sR, zL_sI, zL_sJ, zL_sR, zI_aI, zJ_aI, zR_aI, zK_aI, zL_aI, z2_at, z2_a, z2_k, z1_self, z1_ne, true_and, and_true]
  refine (lp_fb (st := fun i => ((iI (pkf w (n - i) i), iI ((n : Int) - 1 - i), h) : Int32 × Int32 × Zh)) (e := 0) (s' := (iI (pkf w 0 n), iI (-1), h)) n (by simp [pkf, iI]) (by omega) ?_ ?_).trans rfl
  · intro i hi
    show bX5_pack_6 h r0 (iI (pkf w (n - i) i)) (iI ((n : Int) - 1 - i)) h = _
    have hl := pkf_lt (w := w) i (n - i) (fun j a b => (hw j (by omega)).2)
    have hl4 : 16 ^ i ≤ 16 ^ 4 := Nat.pow_le_pow_right (by decide) (by omega)
    have hc : ((n : Int) - 1 - i) = ((n - 1 - i : Nat) : Int) := by omega
    unfold bX5_pack_6
    rw [hc]
    have hw1 := (hw (n - 1 - i) (by omega)).1
    simp (disch := (first | assumption | omega | decide)) only [zlet_eq, zc2_some, Option.bind_some, ↓si_m1, ↓si_m2, ↓si_m3, iI_lit, iI_add, iI_sub, iI_mul, si_le, si_lt, si_eq, si_zin, si_clamp, Int.toNat_natCast, if_pos, if_neg, zI_sI, zI_sJ, zI_sR, zJ_sI, zJ_sJ, zJ_sR, zR_sI, zR_sJ, zR_sR, zK_sI, zK_sJ, zK_sR, zL_sI, zL_sJ, zL_sR, zI_aI, zJ_aI, zR_aI, zK_aI, zL_aI, z2_at, z2_a, z2_k, z1_self, z1_ne, true_and, and_true, k1, k2, k3, k4, hw1]
    rw [show iI 4 = iI ((4 : Nat) : Int) from rfl, show iI 31 = (31 : Int32) from rfl, iI_shl (by decide) (by omega), iI_or]
    have e1 : pkf w (n - i) i * 2 ^ 4 ||| w (n - 1 - i) = pkf w (n - (i + 1)) (i + 1) := by
      rw [Nat.mul_comm, ← Nat.two_pow_add_eq_or_of_lt (by have := (hw (n - 1 - i) (by omega)).2; omega)]
      rw [pkf, show n - (i + 1) = n - 1 - i by omega, show n - 1 - i + 1 = n - i by omega]
      omega
    rw [e1]
    have e2 : ((n - 1 - i : Nat) : Int) + -1 = (n : Int) - 1 - ((i + 1 : Nat) : Int) := by omega
    rw [e2]
  · show bX5_pack_6 h r0 (iI (pkf w (n - n) n)) (iI ((n : Int) - 1 - n)) h = _
    unfold bX5_pack_6
    rw [show (n : Int) - 1 - n = -1 by omega, Nat.sub_self, if_pos (by decide)]
