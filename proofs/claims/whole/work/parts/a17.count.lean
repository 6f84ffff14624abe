/-! counting: equal degrees on both sides -/
theorem cnS_mono {p q : Nat → Bool} : ∀ {x : Nat}, (∀ y, y < x → p y = true → q y = true) → cnS p x ≤ cnS q x := by
  intro x
  induction x with
  | zero => intro _; exact Nat.le_refl _
  | succ x ih =>
    intro hpq
    have h1 := ih (fun y hy => hpq y (by omega))
    show cnS p x + _ ≤ cnS q x + _
    by_cases c : p x = true
    · rw [if_pos c, if_pos (hpq x (by omega) c)]; omega
    · rw [if_neg c]; split <;> omega
theorem cnS_del {q : Nat → Bool} {z : Nat} : ∀ {m : Nat}, z < m → q z = true → cnS (fun y => q y && decide (y ≠ z)) m + 1 = cnS q m := by
  intro m
  induction m with
  | zero => intro hz; omega
  | succ m ih =>
    intro hz hq
    show cnS (fun y => q y && decide (y ≠ z)) m + (if (q m && decide (m ≠ z)) = true then 1 else 0) + 1 = cnS q m + (if q m = true then 1 else 0)
    by_cases c : m = z
    · subst c
      rw [cnS_congr (q := q) (fun y hy => by
        show (q y && decide (y ≠ m)) = q y
        rw [decide_eq_true (show y ≠ m by omega), Bool.and_true]), hq]
      simp
    · have := ih (by omega) hq
      rw [decide_eq_true c, Bool.and_true]
      omega
theorem cnS_inj {p : Nat → Bool} {m : Nat} {f : Nat → Nat} : ∀ {n : Nat} {q : Nat → Bool}, (∀ x, x < n → p x = true → f x < m ∧ q (f x) = true) → (∀ x y, x < y → y < n → p x = true → p y = true → f x ≠ f y) → cnS p n ≤ cnS q m := by
  intro n
  induction n with
  | zero => intro q _ _; exact Nat.zero_le _
  | succ n ih =>
    intro q h1 h2
    show cnS p n + _ ≤ _
    by_cases c : p n = true
    · rw [if_pos c]
      obtain ⟨a, b⟩ := h1 n (by omega) c
      rw [← cnS_del a b]
      refine Nat.succ_le_succ (ih (q := fun y => q y && decide (y ≠ f n)) (fun x hx hp => ?_) (fun x y hxy hy => h2 x y hxy (by omega)))
      obtain ⟨a', b'⟩ := h1 x (by omega) hp
      refine ⟨a', ?_⟩
      show (q (f x) && decide (f x ≠ f n)) = true
      rw [b', decide_eq_true (h2 x n hx (by omega) hp c)]
      rfl
    · rw [if_neg c]
      exact ih (fun x hx => h1 x (by omega)) (fun x y hxy hy => h2 x y hxy (by omega))
def sumN (f : Nat → Nat) : Nat → Nat
  | 0 => 0
  | x + 1 => sumN f x + f x
theorem sumN_le {f g : Nat → Nat} : ∀ {n : Nat}, (∀ x, x < n → f x ≤ g x) → sumN f n ≤ sumN g n := by
  intro n
  induction n with
  | zero => intro _; exact Nat.le_refl _
  | succ n ih =>
    intro h
    have := ih (fun x hx => h x (by omega))
    have := h n (by omega)
    show sumN f n + f n ≤ sumN g n + g n
    omega
theorem sumN_add {f g : Nat → Nat} : ∀ n : Nat, sumN (fun x => f x + g x) n = sumN f n + sumN g n
  | 0 => rfl
  | n + 1 => by
    show sumN _ n + (f n + g n) = (sumN f n + f n) + (sumN g n + g n)
    rw [sumN_add n]; omega
theorem sumN_0 : ∀ n : Nat, sumN (fun _ => 0) n = 0
  | 0 => rfl
  | n + 1 => by show sumN (fun _ => 0) n + 0 = 0; rw [sumN_0 n]
theorem sumN_swap {g : Nat → Nat → Nat} {m : Nat} : ∀ n : Nat, sumN (fun x => sumN (fun r => g x r) m) n = sumN (fun r => sumN (fun x => g x r) n) m
  | 0 => by show 0 = sumN (fun _ => 0) m; rw [sumN_0]
  | n + 1 => by
    show sumN (fun x => sumN (fun r => g x r) m) n + sumN (fun r => g n r) m = sumN (fun r => sumN (fun x => g x r) n + g n r) m
    rw [sumN_swap n, sumN_add]
theorem sumN_cn (p : Nat → Bool) : ∀ n : Nat, sumN (fun x => if p x = true then 1 else 0) n = cnS p n
  | 0 => rfl
  | n + 1 => by show sumN _ n + _ = cnS p n + _; rw [sumN_cn p n]
theorem sumN_c (p : Nat → Bool) (a : Nat) : ∀ n : Nat, sumN (fun x => if p x = true then a else 0) n = a * cnS p n
  | 0 => rfl
  | n + 1 => by
    show sumN _ n + (if p n = true then a else 0) = a * (cnS p n + (if p n = true then 1 else 0))
    rw [sumN_c p a n, Nat.mul_add]
    by_cases c : p n = true
    · rw [if_pos c, if_pos c, Nat.mul_one]
    · rw [if_neg c, if_neg c, Nat.mul_zero]
/-- edges counted from both sides -/
theorem edges {e : Nat → Nat → Bool} {H R a b : Nat} {P Q : Nat → Bool} (h1 : ∀ x, x < H → P x = true → a ≤ cnS (fun r => e x r) R) (h2 : ∀ x r, x < H → r < R → P x = true → e x r = true → Q r = true) (h3 : ∀ r, r < R → Q r = true → cnS (fun x => e x r) H ≤ b) : a * cnS P H ≤ b * cnS Q R := by
  rw [← sumN_c P a H, ← sumN_c Q b R]
  have e1 : sumN (fun x => if P x = true then a else 0) H ≤ sumN (fun x => sumN (fun r => if (P x && e x r) = true then 1 else 0) R) H := by
    refine sumN_le (fun x hx => ?_)
    show (if P x = true then a else 0) ≤ _
    by_cases c : P x = true
    · rw [if_pos c, sumN_cn (fun r => P x && e x r) R]
      refine Nat.le_trans (h1 x hx c) (cnS_mono (fun r _ he => ?_))
      show (P x && e x r) = true
      rw [c]; exact he
    · rw [if_neg c]; exact Nat.zero_le _
  rw [sumN_swap] at e1
  refine Nat.le_trans e1 (sumN_le (fun r hr => ?_))
  show sumN (fun x => if (P x && e x r) = true then 1 else 0) H ≤ if Q r = true then b else 0
  rw [sumN_cn (fun x => P x && e x r) H]
  by_cases c : Q r = true
  · rw [if_pos c]
    refine Nat.le_trans (cnS_mono (fun x _ he => ?_)) (h3 r hr c)
    have he' : (P x && e x r) = true := he
    exact (Bool.and_eq_true_iff.mp he').2
  · rw [if_neg c]
    have : cnS (fun x => P x && e x r) H ≤ cnS (fun _ => false) H := cnS_mono (fun x hx he => by
      have he' : (P x && e x r) = true := he
      have h4 := Bool.and_eq_true_iff.mp he'
      exact absurd (h2 x r hx hr h4.1 h4.2) c)
    have h5 : ∀ n, cnS (fun _ => false) n = 0 := fun n => by
      induction n with
      | zero => rfl
      | succ n ih => show cnS _ n + 0 = 0; exact ih
    rw [h5] at this
    exact this
/-- equal degrees: no failed hand beside a free row -/
theorem reg_all {e : Nat → Nat → Bool} {H R a b : Nat} {pr : Nat → Option Nat} {D : Nat → Bool} (ha : 1 ≤ a) (hd : ∀ x, x < H → cnS (fun r => e x r) R = a) (hb : ∀ r, r < R → (∃ x, x < H ∧ e x r = true) → cnS (fun x => e x r) H = b) (hp : ∀ x r, x < H → pr x = some r → r < R ∧ e x r = true) (hi : ∀ x y r, x < H → y < H → pr x = some r → pr y = some r → x = y) (hD : ∀ x r, x < H → D x = true → r < R → e x r = true → ∃ y, y < H ∧ D y = true ∧ pr y = some r) (hV : ∀ x, x < H → (pr x).isSome = true ∨ D x = true) {z : Nat} (hz : z < H) (hz1 : D z = true) (hz2 : pr z = none) : ∀ r, r < R → (∃ x, x < H ∧ e x r = true) → ∃ y, y < H ∧ pr y = some r := by
  intro r0 hr0 hf
  refine Classical.byContradiction (fun hno => ?_)
  have hf0 := hf
  -- owner
  have ow : ∀ (q : Nat → Bool), ∃ f : Nat → Nat, ∀ r, (∃ y, y < H ∧ q y = true ∧ pr y = some r) → f r < H ∧ q (f r) = true ∧ pr (f r) = some r := by
    intro q
    refine ⟨fun r => if h : ∃ y, y < H ∧ q y = true ∧ pr y = some r then Classical.choose h else 0, fun r h => ?_⟩
    show (dite _ _ _) < H ∧ q (dite _ _ _) = true ∧ pr (dite _ _ _) = some r
    rw [dif_pos h]
    exact Classical.choose_spec h
  let N : Nat → Bool := fun r => @decide (∃ y, y < H ∧ D y = true ∧ pr y = some r) (Classical.propDecidable _)
  have hN : ∀ r, N r = true ↔ ∃ y, y < H ∧ D y = true ∧ pr y = some r := fun r => @decide_eq_true_iff _ (Classical.propDecidable _)
  have n1 : cnS N R + 1 ≤ cnS D H := by
    obtain ⟨f, hf⟩ := ow D
    rw [← cnS_del hz hz1]
    refine Nat.succ_le_succ (cnS_inj (f := f) (fun r hr hq => ?_) (fun r r' hrr hr' h1 h2 q => ?_))
    · obtain ⟨a1, a2, a3⟩ := hf r ((hN r).mp hq)
      refine ⟨a1, ?_⟩
      show (D (f r) && decide (f r ≠ z)) = true
      have hne : f r ≠ z := fun q => by rw [q, hz2] at a3; cases a3
      rw [a2, decide_eq_true hne]
      rfl
    · have a3 := (hf r ((hN r).mp h1)).2.2
      have a4 := (hf r' ((hN r').mp h2)).2.2
      rw [q, a4] at a3
      have := Option.some.inj a3
      omega
  have n2 : a * cnS D H ≤ b * cnS N R := edges (e := e) (fun x hx _ => by rw [hd x hx]; exact Nat.le_refl _) (fun x r hx hr hDx he => (hN r).mpr (hD x r hx hDx hr he)) (fun r hr hq => by
    obtain ⟨y, y1, y2, y3⟩ := (hN r).mp hq
    rw [hb r hr ⟨y, y1, (hp y r y1 y3).2⟩]
    exact Nat.le_refl _)
  let V : Nat → Bool := fun x => !D x
  let W : Nat → Bool := fun r => @decide (r = r0 ∨ ∃ y, y < H ∧ D y = false ∧ pr y = some r) (Classical.propDecidable _)
  have hW : ∀ r, W r = true ↔ (r = r0 ∨ ∃ y, y < H ∧ D y = false ∧ pr y = some r) := fun r => @decide_eq_true_iff _ (Classical.propDecidable _)
  have n3 : cnS V H + 1 ≤ cnS W R := by
    rw [← cnS_del hr0 ((hW r0).mpr (Or.inl rfl))]
    refine Nat.succ_le_succ (cnS_inj (f := fun x => (pr x).getD 0) (fun x hx hq => ?_) (fun x y hxy hy h1 h2 q => ?_))
    · have hq' : D x = false := by have : (!D x) = true := hq; revert this; cases D x <;> simp
      rcases hV x hx with c | c
      · obtain ⟨r, hr⟩ := Option.isSome_iff_exists.mp c
        have := hp x r hx hr
        show (pr x).getD 0 < R ∧ (W ((pr x).getD 0) && decide ((pr x).getD 0 ≠ r0)) = true
        rw [hr]
        show r < R ∧ (W r && decide (r ≠ r0)) = true
        refine ⟨this.1, ?_⟩
        have hne : r ≠ r0 := fun q => hno ⟨x, hx, by rw [← q]; exact hr⟩
        rw [(hW r).mpr (Or.inr ⟨x, hx, hq', hr⟩), decide_eq_true hne]
        rfl
      · rw [hq'] at c; cases c
    · have hx : x < H := by omega
      have d1 : D x = false := by have : (!D x) = true := h1; revert this; cases D x <;> simp
      have d2 : D y = false := by have : (!D y) = true := h2; revert this; cases D y <;> simp
      have c1 := (hV x hx).resolve_right (by rw [d1]; decide)
      have c2 := (hV y hy).resolve_right (by rw [d2]; decide)
      obtain ⟨r, hr⟩ := Option.isSome_iff_exists.mp c1
      obtain ⟨r', hr'⟩ := Option.isSome_iff_exists.mp c2
      have q' : (pr x).getD 0 = (pr y).getD 0 := q
      rw [hr, hr'] at q'
      have q2 : r = r' := q'
      rw [← q2] at hr'
      have := hi x y r hx hy hr hr'
      omega
  have n4 : b * cnS W R ≤ a * cnS V H := edges (e := fun r x => e x r) (fun r hr hq => by
      have : ∃ x, x < H ∧ e x r = true := by
        rcases (hW r).mp hq with c | ⟨y, y1, y2, y3⟩
        · rw [c]; exact hf0
        · exact ⟨y, y1, (hp y r y1 y3).2⟩
      rw [hb r hr this]
      exact Nat.le_refl _) (fun r x hr hx hq he => by
      have he' : e x r = true := he
      show (!D x) = true
      cases hDx : D x
      · rfl
      · obtain ⟨y, y1, y2, y3⟩ := hD x r hx hDx hr he'
        rcases (hW r).mp hq with c | ⟨y', z1, z2, z3⟩
        · exact absurd ⟨y, y1, by rw [← c]; exact y3⟩ hno
        · have := hi y y' r y1 z1 y3 z3
          rw [this, z2] at y2
          cases y2) (fun x hx _ => by rw [hd x hx]; exact Nat.le_refl _)
  generalize cnS D H = d at *
  generalize cnS N R = n at *
  generalize cnS V H = v at *
  generalize cnS W R = w at *
  have m1 : b * (n + 1) ≤ b * d := Nat.mul_le_mul_left b n1
  have m2 : b * (v + 1) ≤ b * w := Nat.mul_le_mul_left b n3
  rw [Nat.mul_add, Nat.mul_one] at m1 m2
  have m3 : 1 * d ≤ a * d := Nat.mul_le_mul_right d ha
  -- a < b
  have hb1 : 1 ≤ b := by
    rcases Nat.eq_zero_or_pos b with c | c
    · rw [c] at n2; simp at n2; omega
    · exact c
  rcases Nat.lt_or_ge a b with c | c
  · have m4 : a * v ≤ b * v := Nat.mul_le_mul_right v (by omega)
    omega
  · have m4 : b * d ≤ a * d := Nat.mul_le_mul_right d c
    omega
/-- how many are paired -/
theorem reg_min {e : Nat → Nat → Bool} {H R a b : Nat} {pr : Nat → Option Nat} {D : Nat → Bool} (ha : 1 ≤ a) (hd : ∀ x, x < H → cnS (fun r => e x r) R = a) (hb : ∀ r, r < R → (∃ x, x < H ∧ e x r = true) → cnS (fun x => e x r) H = b) (hp : ∀ x r, x < H → pr x = some r → r < R ∧ e x r = true) (hi : ∀ x y r, x < H → y < H → pr x = some r → pr y = some r → x = y) (hD : ∀ x r, x < H → D x = true → r < R → e x r = true → ∃ y, y < H ∧ D y = true ∧ pr y = some r) (hV : ∀ x, x < H → (pr x).isSome = true ∨ D x = true) {fit : Nat → Bool} (hfit : ∀ r, r < R → (fit r = true ↔ ∃ x, x < H ∧ e x r = true)) : cnS (fun y => (pr y).isSome) H = min H (cnS fit R) := by
  have l1 := cnS_le (p := fun y => (pr y).isSome) H
  have l2 : cnS (fun y => (pr y).isSome) H ≤ cnS fit R := by
    refine cnS_inj (f := fun x => (pr x).getD 0) (fun x hx hq => ?_) (fun x y hxy hy h1 h2 q => ?_)
    · obtain ⟨r, hr⟩ := Option.isSome_iff_exists.mp hq
      show (pr x).getD 0 < R ∧ fit ((pr x).getD 0) = true
      rw [hr]
      have := hp x r hx hr
      exact ⟨this.1, (hfit r this.1).mpr ⟨x, hx, this.2⟩⟩
    · obtain ⟨r, hr⟩ := Option.isSome_iff_exists.mp h1
      obtain ⟨r', hr'⟩ := Option.isSome_iff_exists.mp h2
      have q' : (pr x).getD 0 = (pr y).getD 0 := q
      rw [hr, hr'] at q'
      have q2 : r = r' := q'
      rw [← q2] at hr'
      have := hi x y r (by omega) hy hr hr'
      omega
  by_cases c : ∀ x, x < H → (pr x).isSome = true
  · have : cnS (fun y => (pr y).isSome) H = H := cnS_full c
    omega
  · have : ∃ z, z < H ∧ (pr z).isSome = false := by
      refine Classical.byContradiction (fun hn => c (fun x hx => ?_))
      cases q : (pr x).isSome
      · exact absurd ⟨x, hx, q⟩ hn
      · rfl
    obtain ⟨z, z1, z2⟩ := this
    have z3 : D z = true := (hV z z1).resolve_left (by rw [z2]; decide)
    have z4 : pr z = none := by
      cases q : pr z
      · rfl
      · rw [q] at z2; cases z2
    have all := reg_all ha hd hb hp hi hD hV z1 z3 z4
    have hx : ∀ r, r < R → fit r = true → ∃ y, y < H ∧ pr y = some r := fun r hr hq => all r hr ((hfit r hr).mp hq)
    have l3 : cnS fit R ≤ cnS (fun y => (pr y).isSome) H := by
      refine cnS_inj (f := fun r => if h : ∃ y, y < H ∧ pr y = some r then Classical.choose h else 0) (fun r hr hq => ?_) (fun r r' hrr hr' h1 h2 q => ?_)
      · have h := hx r hr hq
        show dite _ _ _ < H ∧ (pr (dite _ _ _)).isSome = true
        rw [dif_pos h]
        have := Classical.choose_spec h
        exact ⟨this.1, by rw [this.2]; rfl⟩
      · have h := hx r (by omega) h1
        have h' := hx r' hr' h2
        rw [dif_pos h, dif_pos h'] at q
        have s1 := (Classical.choose_spec h).2
        have s2 := (Classical.choose_spec h').2
        rw [q, s2] at s1
        have := Option.some.inj s1
        omega
    omega
/-- unlike cards carried to unlike cards -/
theorem prm_ex {n : Nat} {w v : Nat → Nat} : ∀ a, (∀ i j, i < j → j < a → w i ≠ w j) → (∀ i j, i < j → j < a → v i ≠ v j) → (∀ i, i < a → w i < n) → (∀ i, i < a → v i < n) → ∃ s : Nat → Nat, (∀ y, y < n → s y < n) ∧ (∀ y z, y < n → z < n → s y = s z → y = z) ∧ ∀ i, i < a → s (w i) = v i := by
  intro a
  induction a with
  | zero => intro _ _ _ _; exact ⟨fun y => y, fun y hy => hy, fun y z _ _ e => e, fun i hi => by omega⟩
  | succ a ih =>
    intro h1 h2 h3 h4
    obtain ⟨s, s1, s2, s3⟩ := ih (fun i j h h' => h1 i j h (by omega)) (fun i j h h' => h2 i j h (by omega)) (fun i hi => h3 i (by omega)) (fun i hi => h4 i (by omega))
    have e1 := s1 (w a) (h3 a (by omega))
    have e2 := h4 a (by omega)
    have e3 : ∀ i, i < a → v i ≠ v a := fun i hi => h2 i a hi (by omega)
    have e4 : ∀ i, i < a → v i ≠ s (w a) := fun i hi q => by
      rw [← s3 i hi] at q
      exact h1 i a hi (by omega) (s2 _ _ (h3 i (by omega)) (h3 a (by omega)) q)
    have tr : ∀ A B c d : Nat, (if c = A then B else if c = B then A else c) = (if d = A then B else if d = B then A else d) → c = d := by
      intro A B c d q
      by_cases c1 : c = A
      · rw [if_pos c1] at q
        by_cases d1 : d = A
        · omega
        · rw [if_neg d1] at q
          by_cases d2 : d = B
          · rw [if_pos d2] at q; omega
          · rw [if_neg d2] at q; omega
      · rw [if_neg c1] at q
        by_cases c2 : c = B
        · rw [if_pos c2] at q
          by_cases d1 : d = A
          · rw [if_pos d1] at q; omega
          · rw [if_neg d1] at q
            by_cases d2 : d = B
            · omega
            · rw [if_neg d2] at q; omega
        · rw [if_neg c2] at q
          by_cases d1 : d = A
          · rw [if_pos d1] at q; omega
          · rw [if_neg d1] at q
            by_cases d2 : d = B
            · rw [if_pos d2] at q; omega
            · rw [if_neg d2] at q; exact q
    refine ⟨fun y => if s y = s (w a) then v a else if s y = v a then s (w a) else s y, fun y hy => ?_, fun y z hy hz q => s2 y z hy hz (tr _ _ _ _ q), fun i hi => ?_⟩
    · show (if _ then _ else if _ then _ else _) < n
      have := s1 y hy
      split
      · exact e2
      · split
        · exact e1
        · exact this
    · show (if _ then _ else if _ then _ else _) = v i
      by_cases c : i = a
      · rw [c, if_pos rfl]
      · have hia : i < a := by omega
        rw [s3 i hia, if_neg (e4 i hia), if_neg (e3 i hia)]
