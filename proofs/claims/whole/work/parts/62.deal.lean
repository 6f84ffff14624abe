/-! all hands in their order: the search that both do, and what it finds -/
def pw (p : List Nat) (i : Nat) : Nat := p.getD (p.length - 1 - i) 0
theorem pw_top (x : Nat) (p : List Nat) : pw (x :: p) p.length = x := by simp [pw]
theorem pw_low (x : Nat) (p : List Nat) {i : Nat} (hi : i < p.length) : pw (x :: p) i = pw p i := by
  unfold pw
  rw [List.length_cons, show p.length + 1 - 1 - i = (p.length - 1 - i) + 1 by omega]
  rfl
def nxt (rs : Bool) (p : List Nat) (n c : Nat) : Nat := folN (fun y => !rs && p.contains y) n 20 c
noncomputable def drun (n k : Nat) (rs : Bool) (f : Nat) : List Nat → Nat → List (List Nat) :=
  Nat.rec (motive := fun _ => List Nat → Nat → List (List Nat)) (fun _ _ => [[99]]) (fun _ ih p c => if n ≤ nxt rs p n c then (match p with
    | [] => []
    | y :: q => ih q (y + 1)) else if p.length + 1 = k then (nxt rs p n c :: p) :: ih p (nxt rs p n c + 1) else ih (nxt rs p n c :: p) (if rs then nxt rs p n c + 1 else 0)) f
theorem drun_s (n k : Nat) (rs : Bool) (f : Nat) (p : List Nat) (c : Nat) : drun n k rs (f + 1) p c = if n ≤ nxt rs p n c then (match p with
    | [] => []
    | y :: q => drun n k rs f q (y + 1)) else if p.length + 1 = k then (nxt rs p n c :: p) :: drun n k rs f p (nxt rs p n c + 1) else drun n k rs f (nxt rs p n c :: p) (if rs then nxt rs p n c + 1 else 0) := rfl
def okP (n k : Nat) (rs : Bool) (h : Nat) (e : List Nat) : Prop := e.length = k ∧ (∀ i, i < k → pw e i < n) ∧ (∀ j, j < k → ∀ i, i < j → if rs = true then pw e i < pw e j else pw e i ≠ pw e j) ∧ (if rs = true then pch n k - 1 - bhd n k (pw e) k = h else rowN n (pw e) k = h)
def okB (n k : Nat) (rs : Bool) (h : Nat) (e : List Nat) : Bool := decide (e.length = k) && decide (∀ i, i < k → pw e i < n) && (match rs with
  | true => decide (∀ j, j < k → ∀ i, i < j → pw e i < pw e j) && decide (pch n k - 1 - bhd n k (pw e) k = h)
  | false => decide (∀ j, j < k → ∀ i, i < j → pw e i ≠ pw e j) && decide (rowN n (pw e) k = h))
theorem okB_P {n k : Nat} {rs : Bool} {h : Nat} {e : List Nat} (q : okB n k rs h e = true) : okP n k rs h e := by
  unfold okB at q
  cases rs
  · simp only [Bool.and_eq_true, decide_eq_true_eq] at q
    exact ⟨q.1.1, q.1.2, by simpa using q.2.1, by simpa using q.2.2⟩
  · simp only [Bool.and_eq_true, decide_eq_true_eq] at q
    exact ⟨q.1.1, q.1.2, by simpa using q.2.1, by simpa using q.2.2⟩
noncomputable def dchk (n k : Nat) (rs : Bool) (H : Nat) (f : Nat) : List Nat → Nat → Nat → Bool :=
  Nat.rec (motive := fun _ => List Nat → Nat → Nat → Bool) (fun _ _ _ => false) (fun _ ih p c h => if n ≤ nxt rs p n c then (match p with
    | [] => Nat.beq h H
    | y :: q => ih q (y + 1) h) else if p.length + 1 = k then okB n k rs h (nxt rs p n c :: p) && ih p (nxt rs p n c + 1) (h + 1) else ih (nxt rs p n c :: p) (if rs then nxt rs p n c + 1 else 0) h) f
theorem dchk_s (n k : Nat) (rs : Bool) (H f : Nat) (p : List Nat) (c h : Nat) : dchk n k rs H (f + 1) p c h = if n ≤ nxt rs p n c then (match p with
    | [] => Nat.beq h H
    | y :: q => dchk n k rs H f q (y + 1) h) else if p.length + 1 = k then okB n k rs h (nxt rs p n c :: p) && dchk n k rs H f p (nxt rs p n c + 1) (h + 1) else dchk n k rs H f (nxt rs p n c :: p) (if rs then nxt rs p n c + 1 else 0) h := rfl
theorem dchk_ok {n k : Nat} {rs : Bool} {H : Nat} : ∀ (f : Nat) (p : List Nat) (c h : Nat), dchk n k rs H f p c h = true → h + (drun n k rs f p c).length = H ∧ ∀ j e, (drun n k rs f p c)[j]? = some e → okP n k rs (h + j) e := by
  intro f
  induction f with
  | zero => intro p c h q; cases q
  | succ f ih =>
    intro p c h q
    rw [dchk_s] at q
    rw [drun_s]
    by_cases c1 : n ≤ nxt rs p n c
    · rw [if_pos c1] at q ⊢
      cases p with
      | nil =>
        have e := Nat.eq_of_beq_eq_true q
        exact ⟨by simpa using e, fun j e h => by simp at h⟩
      | cons y p => exact ih p (y + 1) h q
    · rw [if_neg c1] at q ⊢
      by_cases c2 : p.length + 1 = k
      · rw [if_pos c2] at q ⊢
        rw [Bool.and_eq_true] at q
        obtain ⟨i1, i2⟩ := ih _ _ _ q.2
        refine ⟨by rw [List.length_cons]; omega, fun j e he => ?_⟩
        cases j with
        | zero =>
          have : nxt rs p n c :: p = e := by simpa using he
          rw [← this]
          exact okB_P q.1
        | succ j =>
          rw [List.getElem?_cons_succ] at he
          have := i2 j e he
          rw [show h + (j + 1) = h + 1 + j by omega]
          exact this
      · rw [if_neg c2] at q ⊢
        exact ih _ _ _ q
/-- how many hands -/
def hnd (n k : Nat) (rs : Bool) : Nat := if rs then (pch n k).toNat else ff n k
def dF : Nat := 20000
theorem deal_kt : ∀ n : Nat, n < 13 → ∀ k : Nat, k < 6 → 1 ≤ k → k ≤ n → dchk n k true (hnd n k true) dF [] 0 0 = true := by decide +kernel
theorem deal_kf : ∀ n : Nat, n < 13 → ∀ k : Nat, k < 6 → 1 ≤ k → k ≤ n → hnd n k false ≤ 2000 → dchk n k false (hnd n k false) dF [] 0 0 = true := by decide +kernel
