/-! pairing hands to rows: the theory -/
def updN (f : Nat → Option Nat) (r v : Nat) (q : Nat) : Option Nat := if q = r then some v else f q
theorem updN_at (f : Nat → Option Nat) (r v : Nat) : updN f r v r = some v := if_pos rfl
theorem updN_ne (f : Nat → Option Nat) {r q : Nat} (v : Nat) (h : q ≠ r) : updN f r v q = f q := if_neg h
/-- both sides tell the same pairs -/
def Cns (H : Nat) (F : Nat → Nat → Prop) (pr ow : Nat → Option Nat) : Prop := (∀ y r, y < H → pr y = some r → F y r ∧ ow r = some y) ∧ ∀ r y, ow r = some y → y < H ∧ pr y = some r
/-- .. but for one row, which nobody has -/
def CnX (H : Nat) (F : Nat → Nat → Prop) (pr ow : Nat → Option Nat) (row : Nat) : Prop := (∀ y r, y < H → pr y = some r → F y r ∧ ow r = some y ∧ r ≠ row) ∧ ∀ r y, r ≠ row → ow r = some y → y < H ∧ pr y = some r
theorem Cns.x {H : Nat} {F : Nat → Nat → Prop} {pr ow : Nat → Option Nat} (c : Cns H F pr ow) {row : Nat} (h : ow row = none) : CnX H F pr ow row := ⟨fun y r hy hp => ⟨(c.1 y r hy hp).1, (c.1 y r hy hp).2, fun e => by
  have := (c.1 y r hy hp).2
  rw [e, h] at this
  cases this⟩, fun r y _ ho => c.2 r y ho⟩
theorem CnX.step {H : Nat} {F : Nat → Nat → Prop} {pr ow : Nat → Option Nat} {row x old : Nat} (c : CnX H F pr ow row) (hx : x < H) (hF : F x row) (hp : pr x = some old) : CnX H F (updN pr x row) (updN ow row x) old := by
  have ho := c.1 x old hx hp
  refine ⟨fun y r hy h => ?_, fun r y hr h => ?_⟩
  · by_cases e : y = x
    · subst e
      rw [updN_at] at h
      have : row = r := Option.some.inj h
      subst this
      exact ⟨hF, updN_at _ _ _, fun q => ho.2.2 q.symm⟩
    · rw [updN_ne _ _ e] at h
      have h1 := c.1 y r hy h
      refine ⟨h1.1, by rw [updN_ne _ _ h1.2.2]; exact h1.2.1, fun q => ?_⟩
      rw [q, ho.2.1] at h1
      exact e (Option.some.inj h1.2.1).symm
  · by_cases e : r = row
    · subst e
      rw [updN_at] at h
      have : x = y := Option.some.inj h
      subst this
      exact ⟨hx, updN_at _ _ _⟩
    · rw [updN_ne _ _ e] at h
      have h1 := c.2 r y e h
      refine ⟨h1.1, ?_⟩
      have : y ≠ x := fun q => by rw [q, hp] at h1; exact hr (Option.some.inj h1.2).symm
      rw [updN_ne _ _ this]
      exact h1.2
theorem CnX.last {H : Nat} {F : Nat → Nat → Prop} {pr ow : Nat → Option Nat} {row x : Nat} (c : CnX H F pr ow row) (hx : x < H) (hF : F x row) (hp : pr x = none) : Cns H F (updN pr x row) (updN ow row x) := by
  refine ⟨fun y r hy h => ?_, fun r y h => ?_⟩
  · by_cases e : y = x
    · subst e
      rw [updN_at] at h
      have : row = r := Option.some.inj h
      subst this
      exact ⟨hF, updN_at _ _ _⟩
    · rw [updN_ne _ _ e] at h
      have h1 := c.1 y r hy h
      exact ⟨h1.1, by rw [updN_ne _ _ h1.2.2]; exact h1.2.1⟩
  · by_cases e : r = row
    · subst e
      rw [updN_at] at h
      have : x = y := Option.some.inj h
      subst this
      exact ⟨hx, updN_at _ _ _⟩
    · rw [updN_ne _ _ e] at h
      have h1 := c.2 r y e h
      have : y ≠ x := fun q => by rw [q, hp] at h1; cases h1.2
      rw [updN_ne _ _ this]
      exact h1
/-! a map of a finite set into itself that never meets is onto -/
theorem holes : ∀ (m n : Nat) (f : Nat → Nat), (∀ i, i < n → f i < m) → (∀ i j, i < j → j < n → f i ≠ f j) → n ≤ m
  | 0, n, f, h1, _ => by
    refine Classical.byContradiction fun c => ?_
    have := h1 0 (by omega)
    omega
  | m + 1, 0, _, _, _ => Nat.zero_le _
  | m + 1, n + 1, f, h1, h2 => by
    -- the last one's value goes out, and m's place is taken by it
    have ih := holes m n (fun i => if f i = m then f n else f i) (fun i hi => by
      have a := h1 i (by omega)
      have b := h1 n (by omega)
      have c := h2 i n hi (by omega)
      split <;> omega) (fun i j hij hj => by
      have a := h2 i j hij (by omega)
      have b := h2 i n (by omega) (by omega)
      have c := h2 j n hj (by omega)
      split
      · split
        · omega
        · exact fun e => c e.symm
      · split
        · exact b
        · exact a)
    omega
theorem fin_onto {H : Nat} {D : Nat → Prop} {φ : Nat → Nat} (h1 : ∀ d, D d → d < H ∧ D (φ d)) (h2 : ∀ d e, D d → D e → φ d = φ e → d = e) {o : Nat} (ho : D o) : ∃ d, D d ∧ φ d = o := by
  refine Classical.byContradiction fun c => ?_
  have hit : ∀ i, D (Nat.repeat φ i o) := by
    intro i
    induction i with
    | zero => exact ho
    | succ i ih => exact (h1 _ ih).2
  have hinj : ∀ i j, i < j → Nat.repeat φ i o ≠ Nat.repeat φ j o := by
    intro i
    induction i with
    | zero =>
      intro j hj e
      obtain ⟨k, rfl⟩ : ∃ k, j = k + 1 := ⟨j - 1, by omega⟩
      exact c ⟨Nat.repeat φ k o, hit k, e.symm⟩
    | succ i ih =>
      intro j hj e
      obtain ⟨k, rfl⟩ : ∃ k, j = k + 1 := ⟨j - 1, by omega⟩
      exact ih k (by omega) (h2 _ _ (hit i) (hit k) e)
  have := holes H (H + 1) (fun i => Nat.repeat φ i o) (fun i _ => (h1 _ (hit i)).1) (fun i j hij _ => hinj i j hij)
  omega
/-- hands from which no free row is reached -/
def Cls (H s : Nat) (F : Nat → Nat → Prop) (ow : Nat → Option Nat) (D : Nat → Prop) : Prop := ∀ x, D x → x < H ∧ s ≤ x ∧ ∀ r, F x r → ∃ y, ow r = some y ∧ (y < s ∨ D y)
theorem Cls.onto {H s : Nat} {F : Nat → Nat → Prop} {pr ow : Nat → Option Nat} {D : Nat → Prop} (c : Cns H F pr ow) (cl : Cls H s F ow D) {M : Nat → Nat} (hM : ∀ x, x < H → F x (M x)) (hi : ∀ x y, x < y → y < H → M x ≠ M y) (hs : ∀ y r, y < s → ow r = some y → M y = r) {o : Nat} (ho : D o) : ∃ d, D d ∧ pr o = some (M d) := by
  have key : ∀ d, D d → ∃ y, ow (M d) = some y ∧ D y := by
    intro d hd
    obtain ⟨h1, h2, h3⟩ := cl d hd
    obtain ⟨y, h4, h5⟩ := h3 _ (hM d h1)
    refine ⟨y, h4, ?_⟩
    rcases h5 with h5 | h5
    · exact absurd (hs y _ h5 h4) (hi y d (by omega) h1)
    · exact h5
  have hφ : ∀ d, D d → ow (M d) = some ((ow (M d)).getD 0) ∧ D ((ow (M d)).getD 0) := fun d hd => by
    obtain ⟨y, h1, h2⟩ := key d hd
    rw [h1]
    exact ⟨rfl, h2⟩
  obtain ⟨d, hd, e⟩ := fin_onto (H := H) (D := D) (φ := fun d => (ow (M d)).getD 0) (fun d hd => ⟨(cl d hd).1, (hφ d hd).2⟩) (fun d e hd he q => by
    have h1 := (hφ d hd).1
    have h2 := (hφ e he).1
    rw [q] at h1
    have p1 := (c.2 _ _ h1).2
    have p2 := (c.2 _ _ h2).2
    rw [p1] at p2
    have hm : M d = M e := Option.some.inj p2
    rcases Nat.lt_trichotomy d e with z | z | z
    · exact absurd hm (hi d e z (cl e he).1)
    · exact z
    · exact absurd hm.symm (hi e d z (cl d hd).1)) ho
  have h1 := (hφ d hd).1
  rw [e] at h1
  exact ⟨d, hd, (c.2 _ _ h1).2⟩
/-- no table goes on so -/
theorem Cls.no {H s : Nat} {F : Nat → Nat → Prop} {pr ow : Nat → Option Nat} {D : Nat → Prop} (c : Cns H F pr ow) (cl : Cls H s F ow D) {M : Nat → Nat} (hM : ∀ x, x < H → F x (M x)) (hi : ∀ x y, x < y → y < H → M x ≠ M y) (hs : ∀ y r, y < s → ow r = some y → M y = r) {o : Nat} (ho : D o) : (pr o = none → False) ∧ ∀ row x, pr o = some row → x < s → x < H → M x ≠ row := by
  obtain ⟨d, hd, e⟩ := cl.onto c hM hi hs ho
  refine ⟨fun q => (by rw [q] at e; cases e), fun row x q hx hxH q2 => ?_⟩
  rw [q] at e
  have : row = M d := Option.some.inj e
  have h1 := cl d hd
  exact hi x d (by omega) h1.1 (by rw [q2, this])
/-! the search's tree -/
/-- the hands that are reached, each from one ahead of it in the queue through its row -/
def Tre (F : Nat → Nat → Prop) (pr : Nat → Option Nat) (st : Nat) (qu cf : Nat → Nat) (n : Nat) : Prop := 1 ≤ n ∧ qu 0 = st ∧ dst qu n ∧ ∀ j, 1 ≤ j → j < n → ∃ i, i < j ∧ cf (qu j) = qu i ∧ ∃ r, pr (qu j) = some r ∧ F (qu i) r
/-! loops that count, with what holds at each turn -/
theorem lp_cnt {S : Type} {body : S → Option (Nat × S)} (n : Nat) (I : Nat → S → Prop) (P : Nat → S → Prop) (hs : ∀ i s, i < n → I i s → (∃ s', body s = some (0, s') ∧ I (i + 1) s') ∨ (∃ e s', body s = some (e + 1, s') ∧ P (e + 1) s')) (hx : ∀ s, I n s → ∃ e s', body s = some (e + 1, s') ∧ P (e + 1) s') (hn : n < 2 ^ 62) {s : S} (h0 : I 0 s) : ∃ e s', lp body zB s = some (e + 1, s') ∧ P (e + 1) s' := by
  have key : ∀ m i s N, i + m = n → m < N → I i s → ∃ e s', lp body N s = some (e + 1, s') ∧ P (e + 1) s' := by
    intro m
    induction m with
    | zero =>
      intro i s N h1 h2 h3
      obtain ⟨N, rfl⟩ : ∃ K, N = K + 1 := ⟨N - 1, by omega⟩
      rw [Nat.add_zero] at h1
      rw [h1] at h3
      obtain ⟨e, s', a, b⟩ := hx s h3
      exact ⟨e, s', lp_e a, b⟩
    | succ m ih =>
      intro i s N h1 h2 h3
      obtain ⟨N, rfl⟩ : ∃ K, N = K + 1 := ⟨N - 1, by omega⟩
      rcases hs i s (by omega) h3 with ⟨s', a, b⟩ | ⟨e, s', a, b⟩
      · obtain ⟨e, s2, q1, q2⟩ := ih (i + 1) s' N (by omega) (by omega) b
        exact ⟨e, s2, (lp_0 a).trans q1, q2⟩
      · exact ⟨e, s', lp_e a, b⟩
  exact key n 0 s zB (by omega) (by show n < 2 ^ 62; exact hn) h0
/-- the pairs as arrays hold them -/
def ro (o : Option Nat) : Int := match o with
  | none => -1
  | some r => r
def oo (o : Option Nat) : Int := match o with
  | none => 0
  | some y => y + 1
