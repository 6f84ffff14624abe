/-! the model's reader: a rule's words -/
theorem ew_f {tx : Nat → Int} {n s : Nat} {α : Type} {r : PR α} (h : ewB tx n s r = false) : (bn r fun a p => rt a (oN tx n p (isw tx n p s))) = r := by
  rcases r.cs with ⟨x, y, rfl⟩ | ⟨a, p, rfl⟩
  · rfl
  · have h' : isw tx n p s = false := h
    rw [bn_rt, h']
    rfl
theorem ew_t {tx : Nat → Int} {n s : Nat} {α : Type} {r : PR α} (h : ewB tx n s r = true) : ∃ a p, r = rt a p ∧ isw tx n p s = true := by
  rcases r.cs with ⟨x, y, rfl⟩ | ⟨a, p, rfl⟩
  · cases h
  · exact ⟨a, p, rfl, h⟩
theorem ew_r {tx : Nat → Int} {n s : Nat} {α : Type} (a : α) (p : Nat) : ewB tx n s (rt a p) = isw tx n p s := rfl
/-- one word of some, if it stands there -/
theorem et_m {tx : Nat → Int} {n s : Nat} {α : Type} {h : Zh} {r : PR α} (m : MR tx n h r) (hs : s < 25) : (ewB tx n s r = false ∧ ∃ h', fX12_eatsWord 76 s h = some (0, h') ∧ FR [] h h' ∧ MR tx n h' r) ∨ ∃ a p h', r = rt a p ∧ isw tx n p s = true ∧ fX12_eatsWord 76 s h = some (1, h') ∧ FR [] h h' ∧ MR tx n h' (rt a (tkN tx n p)) := by
  obtain ⟨h', e1, e2, e3⟩ := eats_m m hs
  cases c : ewB tx n s r
  · rw [c] at e1
    rw [ew_f c] at e3
    exact Or.inl ⟨rfl, h', e1, e2, e3⟩
  · rw [c] at e1
    obtain ⟨a, p, rfl, hw⟩ := ew_t c
    rw [bn_rt, hw] at e3
    exact Or.inr ⟨a, p, h', rfl, hw, e1, e2, e3⟩
theorem tl146 {g h : Zh} {tx : Nat → Int} {n k t : Nat} {r : PR Nat} {x1 t0 : Int32} (m : MR tx n h r) (hx : ∀ k p, r = rt k p → x1 = iI k) (ht : t0 = iI t) (ht4 : t ≤ 4) : jX12_readWords_146 g 76 x1 t0 h = some (((5 : Int32)) * x1 + t0, h) := by
  have n1 : ¬ t0 = (-1 : Int32) := by
    rw [ht, show (-1 : Int32) = iI (-1) from rfl, iI_eq ⟨by omega, by omega⟩ ⟨by decide, by decide⟩]; omega
  unfold jX12_readWords_146
  rw [if_neg n1]
def w68 (tx : Nat → Int) (n k p : Nat) : PR Nat := bn (pP tx n 20 p) fun _ p => bn (pO tx n (tlW tx n p) p) fun t p => rt (5 * k + t) p
theorem tell_m {g h : Zh} {tx : Nat → Int} {n : Nat} {r : PR Nat} {x1 : Int32} (m : MR tx n h r) (hx : ∀ k p, r = rt k p → x1 = iI k) (hk : ∀ k p, r = rt k p → k ≤ 3) : ∃ w h', (zc2 (fX12_eatsWord 76 21 h) fun v12 h11 => if v12 = 0 then zc2 (fX12_eatsWord 76 22 h11) fun v14 h13 => if v14 = 0 then zc2 (fX12_eatsWord 76 23 h13) fun v16 h15 => if v16 = 0 then zc2 (fX12_eatsWord 76 24 h15) fun v18 h17 => if v18 = 0 then zc2 (fX12_eatsWord 76 19 h17) fun v20 h19 => if v20 = 0 then jX12_readWords_146 g 76 x1 ((-1 : Int32)) h19 else jX12_readWords_146 g 76 x1 ((4 : Int32)) h19 else jX12_readWords_146 g 76 x1 ((3 : Int32)) h17 else jX12_readWords_146 g 76 x1 ((2 : Int32)) h15 else jX12_readWords_146 g 76 x1 ((1 : Int32)) h13 else jX12_readWords_146 g 76 x1 ((0 : Int32)) h11) = some (w, h') ∧ FR [] h h' ∧ MR tx n h' (bn r fun k p => bn (pO tx n (tlW tx n p) p) fun t p => rt (5 * k + t) p) ∧ ∀ v q, (bn r fun k p => bn (pO tx n (tlW tx n p) p) fun t p => rt (5 * k + t) p) = rt v q → w = iI v := by
  have fin : ∀ (t : Nat) (k p : Nat) (h1 : Zh) (t0 : Int32), r = rt k p → t0 = iI t → t ≤ 4 → tlW tx n p = some t → FR [] h h1 → MR tx n h1 (rt k (tkN tx n p)) → ∃ w h', jX12_readWords_146 g 76 x1 t0 h1 = some (w, h') ∧ FR [] h h' ∧ MR tx n h' (bn r fun k p => bn (pO tx n (tlW tx n p) p) fun t p => rt (5 * k + t) p) ∧ ∀ v q, (bn r fun k p => bn (pO tx n (tlW tx n p) p) fun t p => rt (5 * k + t) p) = rt v q → w = iI v := by
    intro t k p h1 t0 er et t4 ew fr mr
    have e1 : (bn r fun k p => bn (pO tx n (tlW tx n p) p) fun t p => rt (5 * k + t) p : PR Nat) = rt (5 * k + t) (tkN tx n p) := by
      rw [er, bn_rt, ew]; rfl
    rw [e1]
    have kb := hk k p er
    refine ⟨_, h1, tl146 (g := g) (t := t) (k := k) mr (fun k' p' e => by obtain ⟨e1, -⟩ := rt_in e; rw [← e1]; exact hx k p er) et t4, fr, mr_sh mr rfl, fun v q e => ?_⟩
    obtain ⟨e2, -⟩ := rt_in e
    rw [hx k p er, et, ← e2]
    show iI 5 * iI (k : Int) + iI (t : Int) = _
    rw [iI_mul, iI_add]
    exact congrArg iI (by omega)
  rcases et_m (s := 21) m (by decide) with ⟨c1, h1, e1, f1, m1⟩ | ⟨k, p, h1, rr, hw, e1, f1, m1⟩
  · rw [e1, zc2_some, if_pos rfl]
    rcases et_m (s := 22) m1 (by decide) with ⟨c2, h2, e2, f2, m2⟩ | ⟨k, p, h2, rr, hw, e2, f2, m2⟩
    · rw [e2, zc2_some, if_pos rfl]
      rcases et_m (s := 23) m2 (by decide) with ⟨c3, h3, e3, f3, m3⟩ | ⟨k, p, h3, rr, hw, e3, f3, m3⟩
      · rw [e3, zc2_some, if_pos rfl]
        rcases et_m (s := 24) m3 (by decide) with ⟨c4, h4, e4, f4, m4⟩ | ⟨k, p, h4, rr, hw, e4, f4, m4⟩
        · rw [e4, zc2_some, if_pos rfl]
          rcases et_m (s := 19) m4 (by decide) with ⟨c5, h5, e5, f5, m5⟩ | ⟨k, p, h5, rr, hw, e5, f5, m5⟩
          · rw [e5, zc2_some, if_pos rfl]
            obtain ⟨h6, g1, g2, g3⟩ := flaw_m (β := Nat) m5 1
            have e6 : (bn r fun k p => bn (pO tx n (tlW tx n p) p) fun t p => rt (5 * k + t) p : PR Nat) = bn r fun _ p => (er 1 (skp tx n p) : PR Nat) := by
              rcases r.cs with ⟨x, y, rfl⟩ | ⟨a, p, rfl⟩
              · rfl
              · rw [ew_r] at c1 c2 c3 c4 c5
                rw [bn_rt, bn_rt]
                unfold tlW
                rw [c1, c2, c3, c4, c5]
                rfl
            rw [e6]
            refine ⟨((5 : Int32)) * x1 + (-1 : Int32), h6, ?_, f1.tr (f2.tr (f3.tr (f4.tr (f5.tr g2)))), g3, fun v q e => ?_⟩
            · unfold jX12_readWords_146
              rw [if_pos rfl, show fX12_flaw 76 (1 : Int32) h5 = some h6 from g1]
              rfl
            · rcases r.cs with ⟨x, y, rfl⟩ | ⟨a, p, rfl⟩
              · exact (er_rt e).elim
              · exact (er_rt e).elim
          · rw [e5, zc2_some, if_neg (by decide)]
            rw [rr, ew_r] at c1 c2 c3 c4
            exact fin 4 k p h5 _ rr rfl (by decide) (by unfold tlW; rw [c1, c2, c3, c4, hw]; rfl) (f1.tr (f2.tr (f3.tr (f4.tr f5)))) m5
        · rw [e4, zc2_some, if_neg (by decide)]
          rw [rr, ew_r] at c1 c2 c3
          exact fin 3 k p h4 _ rr rfl (by decide) (by unfold tlW; rw [c1, c2, c3, hw]; rfl) (f1.tr (f2.tr (f3.tr f4))) m4
      · rw [e3, zc2_some, if_neg (by decide)]
        rw [rr, ew_r] at c1 c2
        exact fin 2 k p h3 _ rr rfl (by decide) (by unfold tlW; rw [c1, c2, hw]; rfl) (f1.tr (f2.tr f3)) m3
    · rw [e2, zc2_some, if_neg (by decide)]
      rw [rr, ew_r] at c1
      exact fin 1 k p h2 _ rr rfl (by decide) (by unfold tlW; rw [c1, hw]; rfl) (f1.tr f2) m2
  · rw [e1, zc2_some, if_neg (by decide)]
    exact fin 0 k p h1 _ rr rfl (by decide) (by unfold tlW; rw [hw]; rfl) f1 m1
theorem wd68 {g h : Zh} {tx : Nat → Int} {n : Nat} {r : PR Nat} {x1 : Int32} (m : MR tx n h r) (hx : ∀ k p, r = rt k p → x1 = iI k) (hk : ∀ k p, r = rt k p → k ≤ 3) : ∃ w h', jX12_readWords_68 g 76 x1 h = some (w, h') ∧ FR [] h h' ∧ MR tx n h' (bn r fun k p => w68 tx n k p) ∧ ∀ v q, (bn r fun k p => w68 tx n k p) = rt v q → w = iI v := by
  obtain ⟨h1, e1, f1, m1⟩ := needs_m (s := 20) m (by decide)
  have m2 : MR tx n h1 (bn r fun k p => bn (pP tx n 20 p) fun _ p => rt k p : PR Nat) := mr_sh m1 (by
    rcases r.cs with ⟨x, y, rfl⟩ | ⟨a, p, rfl⟩
    · rfl
    · simp only [bn_rt]
      rcases (pP tx n 20 p).cs with ⟨x, y, e⟩ | ⟨u, q, e⟩
      · rw [e]; rfl
      · rw [e]; rfl)
  have inv : ∀ k q, (bn r fun k p => bn (pP tx n 20 p) fun _ p => rt k p : PR Nat) = rt k q → ∃ p, r = rt k p := by
    intro k q e
    rcases r.cs with ⟨x, y, rfl⟩ | ⟨a, p, rfl⟩
    · exact (er_rt e).elim
    · simp only [bn_rt] at e
      rcases (pP tx n 20 p).cs with ⟨x, y, e'⟩ | ⟨u, q, e'⟩
      · rw [e'] at e; exact (er_rt e).elim
      · rw [e'] at e
        obtain ⟨e2, -⟩ := rt_in (show (rt a q : PR Nat) = _ from e)
        exact ⟨p, by rw [e2]⟩
  obtain ⟨w, h2, e2, f2, m3, v2⟩ := tell_m (g := g) (x1 := x1) m2 (fun k p e => by obtain ⟨y, e'⟩ := inv k p e; exact hx k y e') (fun k p e => by obtain ⟨y, e'⟩ := inv k p e; exact hk k y e')
  have eR : (bn (bn r fun k p => bn (pP tx n 20 p) fun _ p => rt k p) fun k p => bn (pO tx n (tlW tx n p) p) fun t p => rt (5 * k + t) p : PR Nat) = bn r fun k p => w68 tx n k p := by
    unfold w68
    simp only [bn_as, bn_rt]
  rw [eR] at m3 v2
  refine ⟨w, h2, ?_, f1.tr f2, m3, v2⟩
  unfold jX12_readWords_68
  rw [e1, Option.bind_some]
  exact e2
theorem readWords_m {h : Zh} {tx : Nat → Int} {n p : Nat} {α : Type} {a : α} (m : MR tx n h (rt a p)) : ∃ w h', fX12_readWords 76 h = some (w, h') ∧ FR [] h h' ∧ MR tx n h' (pWd tx n p) ∧ ∀ v q, pWd tx n p = rt v q → w = iI v := by
  have g76 := sK76 m.1
  have ePW : pWd tx n p = bn (pO tx n (kpW tx n p) p) fun k p => w68 tx n k p := rfl
  rw [ePW]
  have fin : ∀ (k : Nat) (h1 : Zh) (t0 : Int32), t0 = iI k → k ≤ 3 → kpW tx n p = some k → FR [] h h1 → MR tx n h1 (rt a (tkN tx n p)) → ∃ w h', jX12_readWords_57 h 76 t0 h1 = some (w, h') ∧ FR [] h h' ∧ MR tx n h' (bn (pO tx n (kpW tx n p) p) fun k p => w68 tx n k p) ∧ ∀ v q, (bn (pO tx n (kpW tx n p) p) fun k p => w68 tx n k p) = rt v q → w = iI v := by
    intro k h1 t0 et k3 ek fr mr
    have mr2 : MR tx n h1 (rt k (tkN tx n p) : PR Nat) := mr_sh mr rfl
    obtain ⟨w, h2, e1, e2, e3, e4⟩ := wd68 (g := h) (x1 := t0) mr2 (fun k' y e => by obtain ⟨z, -⟩ := rt_in e; rw [← z]; exact et) (fun k' y e => by obtain ⟨z, -⟩ := rt_in e; rw [← z]; exact k3)
    have n1 : ¬ t0 = (-1 : Int32) := by
      rw [et, show (-1 : Int32) = iI (-1) from rfl, iI_eq ⟨by omega, by omega⟩ ⟨by decide, by decide⟩]; omega
    rw [ek]
    refine ⟨w, h2, ?_, fr.tr e2, e3, e4⟩
    unfold jX12_readWords_57
    rw [if_neg n1]
    exact e1
  unfold fX12_readWords
  rw [zlet_eq, if_pos g76]
  rcases et_m (s := 16) m (by decide) with ⟨c1, h1, e1, f1, m1⟩ | ⟨k, y, h1, rr, hw, e1, f1, m1⟩
  · rw [ew_r] at c1
    rw [e1, zc2_some, if_pos rfl]
    rcases et_m (s := 17) m1 (by decide) with ⟨c2, h2, e2, f2, m2⟩ | ⟨k, y, h2, rr, hw, e2, f2, m2⟩
    · rw [ew_r] at c2
      rw [e2, zc2_some, if_pos rfl]
      rcases et_m (s := 18) m2 (by decide) with ⟨c3, h3, e3, f3, m3⟩ | ⟨k, y, h3, rr, hw, e3, f3, m3⟩
      · rw [ew_r] at c3
        rw [e3, zc2_some, if_pos rfl]
        rcases et_m (s := 19) m3 (by decide) with ⟨c4, h4, e4, f4, m4⟩ | ⟨k, y, h4, rr, hw, e4, f4, m4⟩
        · rw [ew_r] at c4
          rw [e4, zc2_some, if_pos rfl]
          obtain ⟨h6, g1, g2, g3⟩ := flaw_m (β := Nat) m4 1
          obtain ⟨w, h7, y1, y2, y3, y4⟩ := wd68 (g := h) (x1 := (-1 : Int32)) (show MR tx n h6 (er 1 (skp tx n p) : PR Nat) from g3) (fun k y e => (er_rt e).elim) (fun k y e => (er_rt e).elim)
          have ek : kpW tx n p = none := by unfold kpW; rw [c1, c2, c3, c4]; rfl
          rw [ek]
          refine ⟨w, h7, ?_, f1.tr (f2.tr (f3.tr (f4.tr (g2.tr y2)))), y3, y4⟩
          unfold jX12_readWords_57
          rw [if_pos rfl, show fX12_flaw 76 (1 : Int32) h4 = some h6 from g1, Option.bind_some]
          exact y1
        · obtain ⟨r1, r2⟩ := rt_in rr
          rw [← r2] at hw m4
          rw [← r1] at m4
          rw [e4, zc2_some, if_neg (by decide)]
          exact fin 3 h4 _ rfl (by decide) (by unfold kpW; rw [c1, c2, c3, hw]; rfl) (f1.tr (f2.tr (f3.tr f4))) m4
      · obtain ⟨r1, r2⟩ := rt_in rr
        rw [← r2] at hw m3
        rw [← r1] at m3
        rw [e3, zc2_some, if_neg (by decide)]
        exact fin 2 h3 _ rfl (by decide) (by unfold kpW; rw [c1, c2, hw]; rfl) (f1.tr (f2.tr f3)) m3
    · obtain ⟨r1, r2⟩ := rt_in rr
      rw [← r2] at hw m2
      rw [← r1] at m2
      rw [e2, zc2_some, if_neg (by decide)]
      exact fin 1 h2 _ rfl (by decide) (by unfold kpW; rw [c1, hw]; rfl) (f1.tr f2) m2
  · obtain ⟨r1, r2⟩ := rt_in rr
    rw [← r2] at hw m1
    rw [← r1] at m1
    rw [e1, zc2_some, if_neg (by decide)]
    exact fin 0 h1 _ rfl (by decide) (by unfold kpW; rw [hw]; rfl) f1 m1
