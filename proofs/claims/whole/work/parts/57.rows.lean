/-! rows of unlike numbers -/
theorem bsum_0 : ∀ c, bsum 0 c = 0
  | 0 => rfl
  | c + 1 => by rw [bsum, bsum_0 c]; simp
theorem bsum_or (m x : Nat) (hx : m.testBit x = false) : ∀ c, bsum (m ||| 2 ^ x) c = bsum m c + (if x < c then 1 else 0)
  | 0 => by simp [bsum]
  | c + 1 => by
    rw [bsum, bsum, bsum_or m x hx c, Nat.testBit_or, Nat.testBit_two_pow]
    rcases Nat.lt_trichotomy x c with e | e | e
    · have e1 : x ≠ c := by omega
      have e2 : x < c + 1 := by omega
      simp [e1, e, e2]
      omega
    · subst e
      simp [hx]
    · have e1 : x ≠ c := by omega
      have e2 : ¬ x < c + 1 := by omega
      have e3 : ¬ x < c := by omega
      simp [e1, e2, e3]
theorem bsum_le (m : Nat) : ∀ d c, bsum m (c + d) ≤ bsum m c + d ∧ bsum m c ≤ bsum m (c + d)
  | 0, c => by simp
  | d + 1, c => by
    have := bsum_le m d c
    rw [show c + (d + 1) = (c + d) + 1 by omega, bsum]
    split <;> omega
theorem bsum_c (m c : Nat) : bsum m c ≤ c := by have := (bsum_le m c 0).1; simpa [bsum] using this
/-- unlike numbers -/
def dst (w : Nat → Nat) (a : Nat) : Prop := ∀ i j, i < j → j < a → w i ≠ w j
def cntl (w : Nat → Nat) (c : Nat) : Nat → Nat
  | 0 => 0
  | i + 1 => cntl w c i + (if w i < c then 1 else 0)
theorem dst.le {w : Nat → Nat} {a b : Nat} (h : dst w a) (hb : b ≤ a) : dst w b := fun i j h1 h2 => h i j h1 (by omega)
theorem fmask_off {w : Nat → Nat} {a : Nat} (h : dst w (a + 1)) : (fmask w a).testBit (w a) = false := by
  cases e : (fmask w a).testBit (w a)
  · rfl
  · obtain ⟨i, h1, h2⟩ := (fmask_bit w (w a) a).mp e
    exact absurd h2 (h i a h1 (by omega))
theorem bsum_fmask {w : Nat → Nat} (c : Nat) : ∀ a, dst w a → bsum (fmask w a) c = cntl w c a
  | 0, _ => bsum_0 c
  | a + 1, h => by rw [fmask, cntl, bsum_or _ _ (fmask_off h), bsum_fmask c a (h.le (by omega))]
theorem cntl_all {w : Nat → Nat} {n : Nat} : ∀ a, (∀ i, i < a → w i < n) → cntl w n a = a
  | 0, _ => rfl
  | a + 1, h => by rw [cntl, cntl_all a (fun i hi => h i (by omega)), if_pos (h a (by omega))]
/-- how many unlike numbers below that aren't ahead -/
def dg (w : Nat → Nat) (i : Nat) : Nat := w i - cntl w (w i) i
theorem cntl_le {w : Nat → Nat} {i : Nat} (h : dst w (i + 1)) : cntl w (w i) i ≤ w i := by
  rw [← bsum_fmask _ _ (h.le (by omega))]
  exact bsum_c _ _
theorem dg_lt {w : Nat → Nat} {n i : Nat} (h : dst w (i + 1)) (hn : ∀ j, j < i + 1 → w j < n) : dg w i + i < n := by
  have h1 := bsum_fmask n i (h.le (by omega))
  rw [cntl_all i (fun j hj => hn j (by omega))] at h1
  have h2 := bsum_fmask (w i) i (h.le (by omega))
  have h3 : bsum (fmask w i) (w i + 1) = bsum (fmask w i) (w i) := by rw [bsum, fmask_off h]; simp
  have h4 := hn i (by omega)
  have h5 := (bsum_le (fmask w i) (n - (w i + 1)) (w i + 1)).1
  rw [show w i + 1 + (n - (w i + 1)) = n by omega] at h5
  have h6 := cntl_le h
  unfold dg
  omega
/-- the number of a row of unlike numbers below n -/
def rowN (n : Nat) (w : Nat → Nat) : Nat → Nat
  | 0 => 0
  | i + 1 => rowN n w i * (n - i) + dg w i
def ff (n : Nat) : Nat → Nat
  | 0 => 1
  | i + 1 => ff n i * (n - i)
theorem rowN_lt {n : Nat} {w : Nat → Nat} : ∀ a, dst w a → (∀ j, j < a → w j < n) → rowN n w a < ff n a
  | 0, _, _ => by simp [rowN, ff]
  | a + 1, h, hn => by
    have h1 := rowN_lt a (h.le (by omega)) (fun j hj => hn j (by omega))
    have h2 := dg_lt h hn
    rw [rowN, ff]
    have h3 : (rowN n w a + 1) * (n - a) ≤ ff n a * (n - a) := Nat.mul_le_mul_right _ h1
    rw [Nat.add_mul, Nat.one_mul] at h3
    omega
theorem rowN_congr {n : Nat} {w v : Nat → Nat} : ∀ a, (∀ i, i < a → w i = v i) → rowN n w a = rowN n v a
  | 0, _ => rfl
  | a + 1, h => by
    have c : ∀ b c, b ≤ a → cntl w c b = cntl v c b := by
      intro b c
      induction b with
      | zero => intro _; rfl
      | succ b ih => intro hb; rw [cntl, cntl, ih (by omega), h b (by omega)]
    rw [rowN, rowN, rowN_congr a (fun i hi => h i (by omega)), dg, dg, h a (by omega), c a _ (Nat.le_refl _)]
theorem ff_ok : ∀ n : Nat, n < 13 → ∀ i : Nat, i < 6 → ff n i ≤ 95040 ∧ (i ≤ n → 0 < ff n i ∧ pfall n i = ff n i) := by decide +kernel
theorem rowN_div {n : Nat} {w : Nat → Nat} {a : Nat} (h : dst w (a + 1)) (hn : ∀ j, j < a + 1 → w j < n) : rowN n w (a + 1) / (n - a) = rowN n w a ∧ rowN n w (a + 1) % (n - a) = dg w a := by
  have h2 := dg_lt h hn
  rw [rowN, Nat.mul_comm]
  constructor
  · rw [Nat.mul_add_div (by omega), Nat.div_eq_of_lt (by omega), Nat.add_zero]
  · rw [Nat.mul_add_mod, Nat.mod_eq_of_lt (by omega)]
/-- the number that isn't in a set with so many others below it that aren't -/
def uP (m d : Nat) (c : Nat) : Bool := !m.testBit c && decide (c = bsum m c + d)
theorem uP_t {m d c : Nat} : uP m d c = true ↔ (m.testBit c = false ∧ c = bsum m c + d) := by
  unfold uP
  simp
theorem uP_ex (m d : Nat) : ∀ n, d + bsum m n < n → zfst (uP m d) n < n
  | 0, h => by omega
  | n + 1, h => by
    have hl := zfst_le (uP m d) (n + 1)
    by_cases c : zfst (uP m d) (n + 1) = n + 1
    · exfalso
      have hb : ∀ i, i < n + 1 → uP m d i = false := fun i hi => zfst_before (by rw [c]; exact hi)
      by_cases c2 : d + bsum m n < n
      · have i1 := uP_ex m d n c2
        have i2 := zfst_at i1
        rw [hb _ (by omega)] at i2
        cases i2
      · rw [bsum] at h
        have i2 := hb n (by omega)
        unfold uP at i2
        have hc := bsum_c m n
        cases e : m.testBit n
        · rw [e] at h i2
          have e2 : n = bsum m n + d := by simp at h; omega
          rw [← e2] at i2
          simp at i2
        · rw [e] at h
          simp at h
          omega
    · omega
theorem uP_w {w : Nat → Nat} {n i : Nat} (h : dst w (i + 1)) (hn : ∀ j, j < i + 1 → w j < n) : zfst (uP (fmask w i) (dg w i)) n = w i := by
  have hb := bsum_fmask (w i) i (h.le (by omega))
  have h6 := cntl_le h
  have h4 := hn i (by omega)
  refine zfst_eq (by omega) (fun c hc => ?_) (fun _ => ?_)
  · cases e : uP (fmask w i) (dg w i) c
    · rfl
    · unfold uP dg at e
      simp at e
      have h3 := (bsum_le (fmask w i) (w i - (c + 1)) (c + 1)).1
      rw [show c + 1 + (w i - (c + 1)) = w i by omega, bsum, e.1] at h3
      simp at h3
      omega
  · unfold uP dg
    rw [fmask_off h, hb]
    simp
    omega
/-- the cards of a row by its places' numbers -/
def umask (n : Nat) (D : Nat → Nat) : Nat → Nat
  | 0 => 0
  | i + 1 => umask n D i ||| 2 ^ zfst (uP (umask n D i) (D i)) n
def ucard (n : Nat) (D : Nat → Nat) (i : Nat) : Nat := zfst (uP (umask n D i) (D i)) n
theorem umask_f (n : Nat) (D : Nat → Nat) : ∀ i, fmask (ucard n D) i = umask n D i
  | 0 => rfl
  | i + 1 => by rw [fmask, umask, umask_f n D i]; rfl
theorem ucard_ok {n : Nat} {D : Nat → Nat} : ∀ a, (∀ i, i < a → D i + i < n) → dst (ucard n D) a ∧ ∀ i, i < a → ucard n D i < n ∧ dg (ucard n D) i = D i
  | 0, _ => ⟨fun i j h1 h2 => by omega, fun i h => by omega⟩
  | a + 1, h => by
    obtain ⟨h1, h2⟩ := ucard_ok a (fun i hi => h i (by omega))
    have e1 := bsum_fmask n a h1
    rw [cntl_all a (fun j hj => (h2 j hj).1), umask_f] at e1
    have h3 := h a (by omega)
    have i1 := uP_ex (umask n D a) (D a) n (by omega)
    have i2 := zfst_at i1
    have hd : dst (ucard n D) (a + 1) := by
      intro i j hij hj
      by_cases e : j = a
      · subst e
        intro hc
        have t : (fmask (ucard n D) j).testBit (ucard n D j) = true := (fmask_bit _ _ _).mpr ⟨i, hij, hc⟩
        rw [umask_f] at t
        unfold ucard at t
        rw [(uP_t.mp i2).1] at t
        cases t
      · exact h1 i j hij (by omega)
    refine ⟨hd, fun i hi => ?_⟩
    by_cases e : i = a
    · subst e
      refine ⟨i1, ?_⟩
      have e3 := bsum_fmask (ucard n D i) i h1
      rw [umask_f] at e3
      unfold dg
      rw [← e3]
      have e4 := (uP_t.mp i2).2
      change ucard n D i = bsum (umask n D i) (ucard n D i) + D i at e4
      omega
    · exact h2 i (by omega)
theorem ucard_w {w : Nat → Nat} {n : Nat} {D : Nat → Nat} : ∀ a, dst w a → (∀ j, j < a → w j < n) → (∀ j, j < a → D j = dg w j) → umask n D a = fmask w a ∧ ∀ i, i < a → ucard n D i = w i
  | 0, _, _, _ => ⟨rfl, fun i hi => by omega⟩
  | a + 1, h, hn, hD => by
    obtain ⟨h1, h2⟩ := ucard_w a (h.le (by omega)) (fun j hj => hn j (by omega)) (fun j hj => hD j (by omega))
    have e : ucard n D a = w a := by
      unfold ucard
      rw [h1, hD a (by omega)]
      exact uP_w h hn
    refine ⟨?_, fun i hi => ?_⟩
    · rw [umask, fmask, h1]
      unfold ucard at e
      rw [h1] at e
      rw [e]
    · by_cases c : i = a
      · rw [c]; exact e
      · exact h2 i (by omega)
/-- the places' numbers of a row's number -/
def rst (n sh q : Nat) : Nat → Nat
  | 0 => q
  | t + 1 => rst n sh q t / (n - (sh - 1 - t))
def dgt (n sh q : Nat) (i : Nat) : Nat := rst n sh q (sh - 1 - i) % (n - i)
def unp (n sh q : Nat) : Nat → Nat := ucard n (dgt n sh q)
theorem dgt_lt {n sh q i : Nat} (hi : i < n) : dgt n sh q i + i < n := by
  have := Nat.mod_lt (rst n sh q (sh - 1 - i)) (show 0 < n - i by omega)
  unfold dgt
  omega
theorem unp_ok {n sh q : Nat} (hs : sh ≤ n) : dst (unp n sh q) sh ∧ ∀ i, i < sh → unp n sh q i < n := by
  obtain ⟨h1, h2⟩ := ucard_ok (n := n) (D := dgt n sh q) sh (fun i hi => dgt_lt (by omega))
  exact ⟨h1, fun i hi => (h2 i hi).1⟩
theorem rst_row {w : Nat → Nat} {n sh : Nat} (h : dst w sh) (hn : ∀ j, j < sh → w j < n) : ∀ t, t ≤ sh → rst n sh (rowN n w sh) t = rowN n w (sh - t)
  | 0, _ => rfl
  | t + 1, ht => by
    rw [rst, rst_row h hn t (by omega), show sh - t = (sh - 1 - t) + 1 by omega, (rowN_div (h.le (by omega)) (fun j hj => hn j (by omega))).1, show sh - 1 - t = sh - (t + 1) by omega]
theorem unp_row {w : Nat → Nat} {n sh : Nat} (h : dst w sh) (hn : ∀ j, j < sh → w j < n) : ∀ i, i < sh → unp n sh (rowN n w sh) i = w i := by
  refine (ucard_w sh h hn (fun j hj => ?_)).2
  unfold dgt
  rw [rst_row h hn _ (by omega), show sh - (sh - 1 - j) = j + 1 by omega]
  exact (rowN_div (h.le (by omega)) (fun j hj => hn j (by omega))).2
theorem row_unp {n sh : Nat} : ∀ q, sh ≤ n → q < ff n sh → rowN n (unp n sh q) sh = q := by
  intro q hs hq
  obtain ⟨-, h2⟩ := ucard_ok (n := n) (D := dgt n sh q) sh (fun i hi => dgt_lt (by omega))
  have key : ∀ t, t ≤ sh → rowN n (unp n sh q) (sh - t) = rst n sh q t → True := fun _ _ _ => trivial
  have hb : ∀ t, t ≤ sh → rst n sh q t < ff n (sh - t) := by
    intro t
    induction t with
    | zero => intro _; exact hq
    | succ t ih =>
      intro ht
      have i1 := ih (by omega)
      rw [show sh - t = (sh - (t + 1)) + 1 by omega, ff] at i1
      rw [rst, show sh - 1 - t = sh - (t + 1) by omega]
      exact Nat.div_lt_of_lt_mul (by rw [Nat.mul_comm]; exact i1)
  have up : ∀ i, i ≤ sh → rowN n (unp n sh q) i = rst n sh q (sh - i) := by
    intro i
    induction i with
    | zero =>
      intro _
      have := hb sh (Nat.le_refl _)
      rw [Nat.sub_self, ff] at this
      rw [rowN, Nat.sub_zero]
      omega
    | succ i ih =>
      intro hi
      rw [rowN, ih (by omega)]
      have e := (h2 i (by omega)).2
      rw [show unp n sh q = ucard n (dgt n sh q) from rfl, e]
      unfold dgt
      rw [show sh - i = (sh - 1 - i) + 1 by omega, rst, show sh - 1 - (sh - 1 - i) = i by omega, show sh - (i + 1) = sh - 1 - i by omega]
      have := Nat.div_add_mod (rst n sh q (sh - 1 - i)) (n - i)
      rw [Nat.mul_comm]
      exact this
  rw [up sh (Nat.le_refl _), Nat.sub_self]
  rfl
