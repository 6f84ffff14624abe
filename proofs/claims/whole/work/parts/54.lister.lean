/-! the next number at a place -/
def fmask (w : Nat → Nat) : Nat → Nat
  | 0 => 0
  | i + 1 => fmask w i ||| 2 ^ w i
theorem fmask_bit (w : Nat → Nat) (x : Nat) : ∀ a, (fmask w a).testBit x = true ↔ ∃ i, i < a ∧ w i = x
  | 0 => by simp [fmask]
  | a + 1 => by
    rw [fmask, Nat.testBit_or, Bool.or_eq_true, fmask_bit w x a, Nat.testBit_two_pow]
    constructor
    · rintro (⟨i, h1, h2⟩ | h)
      · exact ⟨i, by omega, h2⟩
      · exact ⟨a, by omega, by simpa using h⟩
    · rintro ⟨i, h1, h2⟩
      by_cases e : i = a
      · subst e; exact Or.inr (by simpa using h2)
      · exact Or.inl ⟨i, by omega, h2⟩
theorem fmask_lt {w : Nat → Nat} {N : Nat} : ∀ a, (∀ i, i < a → w i < N) → fmask w a < 2 ^ N
  | 0, _ => Nat.two_pow_pos N
  | a + 1, h => by
    rw [fmask]
    exact Nat.or_lt_two_pow (fmask_lt a (fun i hi => h i (by omega))) (Nat.pow_lt_pow_right (by decide) (h a (by omega)))
theorem bit_tb (m x : Nat) : m / 2 ^ x % 2 = if m.testBit x then 1 else 0 := by
  rw [Nat.testBit_eq_decide_div_mod_eq]
  have := Nat.mod_two_eq_zero_or_one (m / 2 ^ x)
  rcases this with e | e <;> simp [e]
def folN (u : Nat → Bool) (n : Nat) : Nat → Nat → Nat
  | 0, _ => n
  | f + 1, x => if n ≤ x then n else if u x then folN u n f (x + 1) else x
theorem following_2 {n m : Nat} (hn : n ≤ 12) (hm : m < 4096) (g h : Zh) : ∀ (f x N : Nat), x ≤ n → n < f + x → f < N → ∃ e z, lp (fun q : Int32 × Zh => bX5_following_46 g (iI n) (iI m) q.1 q.2) N (iI x, h) = some (e + 1, (iI z, h)) ∧ (if e + 1 = 1 then z else n) = folN (fun y => m.testBit y) n f x := by
  intro f
  induction f with
  | zero => intro x N h1 h2; omega
  | succ f ih =>
    intro x N hx hf hN
    obtain ⟨N, rfl⟩ : ∃ M, N = M + 1 := ⟨N - 1, by omega⟩
    have hb : bX5_following_46 g (iI n) (iI m) (iI x) h = if n ≤ x then some (2, (iI x, h)) else if m.testBit x = false then some (1, (iI x, h)) else some (0, (iI (x + 1 : Nat), h)) := by
      unfold bX5_following_46
      by_cases c1 : n ≤ x
      · rw [if_pos c1, if_pos (by rw [iI_le ⟨by omega, by omega⟩ ⟨by omega, by omega⟩]; omega)]
      · rw [if_neg c1, if_neg (by rw [iI_le ⟨by omega, by omega⟩ ⟨by omega, by omega⟩]; omega)]
        rw [iI_bit (by omega) (by omega), bit_tb]
        cases e : m.testBit x
        · rw [if_pos (by rfl), if_pos rfl]
        · rw [if_neg (by decide), if_neg (by decide), zlet_eq, iI_lit, iI_add]
          rfl
    rw [lp]
    show ∃ e z, (match bX5_following_46 g (iI n) (iI m) (iI x) h with
      | none => none
      | some (0, s') => lp _ N s'
      | some (e + 1, s') => some (e + 1, s')) = some (e + 1, (iI z, h)) ∧ _
    rw [hb, folN]
    by_cases c1 : n ≤ x
    · rw [if_pos c1, if_pos c1]
      exact ⟨1, x, rfl, by simp⟩
    · rw [if_neg c1, if_neg c1]
      cases e : m.testBit x
      · rw [if_pos rfl]
        exact ⟨0, x, rfl, by simp⟩
      · rw [if_neg (by decide)]
        obtain ⟨e2, z, q1, q2⟩ := ih (x + 1) N (by omega) (by omega) (by omega)
        exact ⟨e2, z, q1, by rw [q2]; simp⟩
