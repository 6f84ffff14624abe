/-! the next number at a place -/
theorem lp_0 {S : Type} {body : S → Option (Nat × S)} {N : Nat} {s s' : S} (h : body s = some (0, s')) : lp body (N + 1) s = lp body N s' := by rw [lp, h]
theorem lp_e {S : Type} {body : S → Option (Nat × S)} {N e : Nat} {s s' : S} (h : body s = some (e + 1, s')) : lp body (N + 1) s = some (e + 1, s') := by rw [lp, h]
def fmask (w : Nat → Nat) : Nat → Nat
  | 0 => 0
  | i + 1 => fmask w i ||| 2 ^ w i
theorem fmask_bit (w : Nat → Nat) (x : Nat) : ∀ a, (fmask w a).testBit x = true ↔ ∃ i, i < a ∧ w i = x
  | 0 => by simp [fmask]
  | a + 1 => by
    rw [fmask, Nat.testBit_or, Bool.or_eq_true, fmask_bit w x a, Nat.testBit_two_pow]
    constructor
    · rintro (⟨i, h1, h2⟩ | h)
      · exact ⟨i, by omega, h2⟩
      · exact ⟨a, by omega, by simpa using h⟩
    · rintro ⟨i, h1, h2⟩
      by_cases e : i = a
      · subst e; exact Or.inr (by simpa using h2)
      · exact Or.inl ⟨i, by omega, h2⟩
theorem fmask_lt {w : Nat → Nat} {N : Nat} : ∀ a, (∀ i, i < a → w i < N) → fmask w a < 2 ^ N
  | 0, _ => Nat.two_pow_pos N
  | a + 1, h => by
    rw [fmask]
    exact Nat.or_lt_two_pow (fmask_lt a (fun i hi => h i (by omega))) (Nat.pow_lt_pow_right (by decide) (h a (by omega)))
theorem bit_tb (m x : Nat) : m / 2 ^ x % 2 = if m.testBit x then 1 else 0 := by
  rw [Nat.testBit_eq_decide_div_mod_eq]
  have := Nat.mod_two_eq_zero_or_one (m / 2 ^ x)
  rcases this with e | e <;> simp [e]
def folN (u : Nat → Bool) (n : Nat) : Nat → Nat → Nat
  | 0, _ => n
  | f + 1, x => if n ≤ x then n else if u x then folN u n f (x + 1) else x
theorem following_2 {n m : Nat} (hn : n ≤ 12) (hm : m < 4096) (g h : Zh) : ∀ (f x N : Nat), x ≤ n → n < f + x → f < N → ∃ (e z : Nat), lp (fun q : Int32 × Zh => bX5_following_46 g (iI n) (iI m) q.1 q.2) N (iI x, h) = some (e + 1, (iI z, h)) ∧ (if e + 1 = 1 then z else n) = folN (fun y => m.testBit y) n f x := by
  intro f
  induction f with
  | zero => intro x N h1 h2; omega
  | succ f ih =>
    intro x N hx hf hN
    obtain ⟨N, rfl⟩ : ∃ M, N = M + 1 := ⟨N - 1, by omega⟩
    have hb : bX5_following_46 g (iI n) (iI m) (iI x) h = if n ≤ x then some (2, (iI x, h)) else if m.testBit x = false then some (1, (iI x, h)) else some (0, (iI (x + 1 : Nat), h)) := by
      unfold bX5_following_46
      by_cases c1 : n ≤ x
      · rw [if_pos c1, if_pos (by rw [iI_le ⟨by omega, by omega⟩ ⟨by omega, by omega⟩]; omega)]
      · rw [if_neg c1, if_neg (by rw [iI_le ⟨by omega, by omega⟩ ⟨by omega, by omega⟩]; omega)]
        rw [iI_bit (by omega) (by omega), bit_tb]
        cases e : m.testBit x
        · rw [if_pos (by rfl), if_pos rfl]
        · rw [if_neg (by decide), if_neg (by decide), zlet_eq, iI_lit, iI_add]
          rfl
    rw [folN]
    by_cases c1 : n ≤ x
    · rw [if_pos c1] at hb ⊢
      exact ⟨1, x, lp_e hb, by simp⟩
    · rw [if_neg c1] at hb ⊢
      cases e : m.testBit x
      · rw [if_pos e] at hb
        exact ⟨0, x, lp_e hb, by simp⟩
      · rw [if_neg (by rw [e]; decide)] at hb
        obtain ⟨e2, z, q1, q2⟩ := ih (x + 1) N (by omega) (by omega) (by omega)
        exact ⟨e2, z, (lp_0 hb).trans q1, by rw [q2]; simp⟩
theorem zin_N {a n : Nat} (h : a < n) (hn : n < 2147483648) : zin (iI a) n := by
  have e := iI_toInt (z := (a : Int)) ⟨by omega, by omega⟩
  exact ⟨by rw [e]; omega, by rw [e]; omega⟩
theorem following_1 {r0 rw a : Nat} {w : Nat → Nat} {g h : Zh} (k1 : zK g r0 = 5) (k2 : zR h r0 0 = some rw) (k3 : zK g rw = 100) (k4 : zL g rw = 5) (ha : a ≤ 4) (hw : ∀ i, i < a → zI h rw i = iI (w i) ∧ w i < 12) : lp (fun q : Int32 × Int32 × Zh => bX5_following_6 g r0 (iI a) (iI 0) q.1 q.2.1 q.2.2) zB (iI 0, iI 0, h) = some (1, (iI (fmask w a), iI a, h)) := by
  refine lp_for (st := fun i => ((iI (fmask w i), iI i, h) : Int32 × Int32 × Zh)) (e := 0) a (by omega) ?_ ?_
  · intro i hi
    show bX5_following_6 g r0 (iI a) (iI 0) (iI (fmask w i)) (iI i) h = _
    unfold bX5_following_6
    rw [if_neg (by rw [iI_le ⟨by omega, by omega⟩ ⟨by omega, by omega⟩]; omega), if_pos (show iI 0 = 0 from rfl), if_pos k1, k2, Option.bind_some, if_pos k3, k4, if_pos (zin_N (by omega) (by omega))]
    rw [iI_clampN (by omega), (hw i hi).1, zlet_eq, zlet_eq, iI_one (by have := (hw i hi).2; omega), iI_or, iI_lit, iI_add]
    rfl
  · show bX5_following_6 g r0 (iI a) (iI 0) (iI (fmask w a)) (iI a) h = _
    unfold bX5_following_6
    rw [if_pos (by rw [iI_le ⟨by omega, by omega⟩ ⟨by omega, by omega⟩]; omega)]
theorem following_1r {r0 a : Nat} {g h : Zh} (ha : a ≤ 4) : lp (fun q : Int32 × Int32 × Zh => bX5_following_6 g r0 (iI a) (iI 1) q.1 q.2.1 q.2.2) zB (iI 0, iI 0, h) = some (1, (iI 0, iI 0, h)) := by
  refine lp_for (st := fun i => ((iI 0, iI i, h) : Int32 × Int32 × Zh)) (e := 0) 0 (by omega) (fun i hi => by omega) ?_
  show bX5_following_6 g r0 (iI a) (iI 1) (iI 0) (iI 0) h = _
  unfold bX5_following_6
  by_cases c : iI (a : Int) ≤ iI 0
  · rw [if_pos c]
  · rw [if_neg c, if_neg (by decide)]
/-- following(n, at, rising) -/
theorem fX5_following_eq {r0 rw a n c m : Nat} {rs : Int} {w : Nat → Nat} {h : Zh} (k1 : zK h r0 = 5) (k2 : zR h r0 0 = some rw) (k3 : zK h rw = 100) (k4 : zL h rw = 5) (ha : a ≤ 4) (hn : n ≤ 12) (hw : ∀ i, i < a → zI h rw i = iI (w i) ∧ w i < 12) (hc : zI h rw a = iI ((c : Int) - 1)) (hcn : c ≤ n) (hrs : (rs = 0 ∧ m = fmask w a) ∨ (rs = 1 ∧ m = 0)) : fX5_following r0 (iI n) (iI a) (iI rs) h = some (iI (folN (fun y => m.testBit y) n 20 c), h) := by
  have hm : m < 4096 := by
    rcases hrs with ⟨-, e⟩ | ⟨-, e⟩
    · rw [e]; exact fmask_lt a (fun i hi => (hw i hi).2)
    · omega
  have e1 : ∃ x, lp (fun q : Int32 × Int32 × Zh => bX5_following_6 h r0 (iI a) (iI rs) q.1 q.2.1 q.2.2) zB (iI 0, iI 0, h) = some (1, (iI m, x, h)) := by
    rcases hrs with ⟨e, em⟩ | ⟨e, em⟩
    · rw [e, em]; exact ⟨_, following_1 k1 k2 k3 k4 ha hw⟩
    · rw [e, em]; exact ⟨_, following_1r ha⟩
  obtain ⟨x, e1⟩ := e1
  obtain ⟨e2, z, q1, q2⟩ := following_2 hn hm h h 20 c zB hcn (by omega) (by show 20 < 2 ^ 62; omega)
  unfold fX5_following
  rw [zlet_eq]
  refine (lp_bd e1).trans ?_
  show kX5_following_6 h r0 (iI n) (iI a) 1 (iI m) x h = _
  unfold kX5_following_6
  rw [if_pos k1, k2, Option.bind_some, if_pos k3, k4, if_pos (zin_N (by omega) (by omega)), iI_clampN (by omega), hc, zlet_eq, iI_lit, iI_add]
  rw [show (c : Int) - 1 + 1 = c by omega]
  refine (lp_bd q1).trans ?_
  show kX5_following_46 h (iI n) (e2 + 1) (iI z) h = _
  unfold kX5_following_46
  rw [← q2]
  by_cases c2 : e2 + 1 = 1
  · rw [if_pos c2, if_pos c2]
  · rw [if_neg c2, if_neg c2]
