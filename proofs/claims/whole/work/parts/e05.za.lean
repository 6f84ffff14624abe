/-! the start: both made -/
def ZA (h : Zh) : Prop := ∀ i j, 100 ≤ zK h i → zI h i j = 0
theorem zaN {α : Type} {h : Zh} {kd len sl : Nat} {f : Zh → Option α} {y : α} (e : zlet (znw h kd len sl) f = some y) (q : ZA h) : ∃ h2, ZA h2 ∧ f h2 = some y := by
  refine ⟨znw h kd len sl, fun i j hk => ?_, by rw [zlet_eq] at e; exact e⟩
  by_cases c : i = zN h
  · rw [zI_nw, c, z1_self]
  · rw [zK_nw, z1_ne _ _ c] at hk
    rw [zI_nw, z1_ne _ _ c]
    exact q i j hk
theorem zaR {α : Type} {h : Zh} {a k : Nat} {v : Option Nat} {f : Zh → Option α} {y : α} (e : zlet (zsR h a k v) f = some y) (q : ZA h) : ∃ h2, ZA h2 ∧ f h2 = some y := ⟨zsR h a k v, q, by rw [zlet_eq] at e; exact e⟩
theorem yaI {α : Type} {h : Zh} {a k c : Nat} {v : Int32} {f : Zh → Option α} {y : α} (e : zlet (zsI h a k v) f = some y) (q : ZA h) (hk : zK h a = c) (hc : c < 13) : ∃ h2, ZA h2 ∧ f h2 = some y := by
  refine ⟨zsI h a k v, fun i j h1 => ?_, by rw [zlet_eq] at e; exact e⟩
  have h2 : 100 ≤ zK h i := h1
  have : i ≠ a := fun z => by rw [z, hk] at h2; omega
  rw [zI_sI, z2_a _ _ _ _ this]
  exact q i j h2
theorem za_X0 {r : Nat} {h h' : Zh} (e : fX0_init r h = some h') (q : ZA h) : ZA h' := by
  unfold fX0_init at e
  have e := zlet_n (x := h) rfl e
  obtain ⟨hk, e⟩ := zite e
  obtain ⟨_, q, e⟩ := yaI e q hk (by decide)
  obtain ⟨hk, e⟩ := zite e
  obtain ⟨_, q, e⟩ := yaI e q hk (by decide)
  injection e with e
  rw [← e]
  exact q
theorem za_X1 {r : Nat} {h h' : Zh} (e : fX1_init r h = some h') (q : ZA h) : ZA h' := by
  unfold fX1_init at e
  have e := zlet_n (x := h) rfl e
  obtain ⟨hk, e⟩ := zite e
  obtain ⟨hk, e⟩ := zite e
  obtain ⟨_, q, e⟩ := zaN e q
  obtain ⟨hk, e⟩ := zite e
  obtain ⟨_, q, e⟩ := zaR e q
  obtain ⟨hk, e⟩ := zite e
  obtain ⟨hk, e⟩ := zite e
  obtain ⟨_, q, e⟩ := zaN e q
  obtain ⟨hk, e⟩ := zite e
  obtain ⟨_, q, e⟩ := zaR e q
  injection e with e
  rw [← e]
  exact q
theorem za_X2 {r : Nat} {x1 : Int32} {h h' : Zh} (e : fX2_init r x1 h = some h') (q : ZA h) : ZA h' := by
  unfold fX2_init at e
  have e := zlet_n (x := h) rfl e
  obtain ⟨hk, e⟩ := zite e
  obtain ⟨hk, e⟩ := zite e
  obtain ⟨_, q, e⟩ := zaN e q
  obtain ⟨hk, e⟩ := zite e
  obtain ⟨_, q, e⟩ := zaR e q
  obtain ⟨hk, e⟩ := zite e
  obtain ⟨_, q, e⟩ := yaI e q hk (by decide)
  injection e with e
  rw [← e]
  exact q
theorem za_X3 {r : Nat} {h h' : Zh} (e : fX3_init r h = some h') (q : ZA h) : ZA h' := by
  unfold fX3_init at e
  have e := zlet_n (x := h) rfl e
  obtain ⟨hk, e⟩ := zite e
  obtain ⟨hk, e⟩ := zite e
  obtain ⟨_, q, e⟩ := zaN e q
  obtain ⟨hk, e⟩ := zite e
  obtain ⟨_, q, e⟩ := zaR e q
  obtain ⟨hk, e⟩ := zite e
  obtain ⟨hk, e⟩ := zite e
  obtain ⟨_, q, e⟩ := zaN e q
  obtain ⟨hk, e⟩ := zite e
  obtain ⟨_, q, e⟩ := zaR e q
  injection e with e
  rw [← e]
  exact q
theorem za_X5 {r : Nat} {h h' : Zh} (e : fX5_init r h = some h') (q : ZA h) : ZA h' := by
  unfold fX5_init at e
  have e := zlet_n (x := h) rfl e
  obtain ⟨hk, e⟩ := zite e
  obtain ⟨hk, e⟩ := zite e
  obtain ⟨_, q, e⟩ := zaN e q
  obtain ⟨hk, e⟩ := zite e
  obtain ⟨_, q, e⟩ := zaR e q
  injection e with e
  rw [← e]
  exact q
theorem za_X8 {r : Nat} {h h' : Zh} (e : fX8_init r h = some h') (q : ZA h) : ZA h' := by
  unfold fX8_init at e
  have e := zlet_n (x := h) rfl e
  obtain ⟨hk, e⟩ := zite e
  obtain ⟨hk, e⟩ := zite e
  obtain ⟨_, q, e⟩ := zaN e q
  obtain ⟨hk, e⟩ := zite e
  obtain ⟨_, q, e⟩ := zaR e q
  obtain ⟨hk, e⟩ := zite e
  obtain ⟨hk, e⟩ := zite e
  obtain ⟨_, q, e⟩ := zaN e q
  obtain ⟨hk, e⟩ := zite e
  obtain ⟨_, q, e⟩ := zaR e q
  obtain ⟨hk, e⟩ := zite e
  obtain ⟨hk, e⟩ := zite e
  obtain ⟨_, q, e⟩ := zaN e q
  obtain ⟨hk, e⟩ := zite e
  obtain ⟨_, q, e⟩ := zaR e q
  injection e with e
  rw [← e]
  exact q
theorem za_X9 {r : Nat} {h h' : Zh} (e : fX9_init r h = some h') (q : ZA h) : ZA h' := by
  unfold fX9_init at e
  have e := zlet_n (x := h) rfl e
  obtain ⟨hk, e⟩ := zite e
  obtain ⟨_, q, e⟩ := zaN e q
  obtain ⟨_, hc, e⟩ := zbd e
  have q := za_X0 hc q
  obtain ⟨hk, e⟩ := zite e
  obtain ⟨_, q, e⟩ := zaR e q
  obtain ⟨hk, e⟩ := zite e
  obtain ⟨hk, e⟩ := zite e
  obtain ⟨_, q, e⟩ := zaN e q
  obtain ⟨hk, e⟩ := zite e
  obtain ⟨_, q, e⟩ := zaR e q
  obtain ⟨hk, e⟩ := zite e
  obtain ⟨_, q, e⟩ := zaN e q
  obtain ⟨_, hc, e⟩ := zbd e
  have q := za_X1 hc q
  obtain ⟨hk, e⟩ := zite e
  obtain ⟨_, q, e⟩ := zaR e q
  injection e with e
  rw [← e]
  exact q
theorem za_X6 {r : Nat} {h h' : Zh} (e : fX6_init r h = some h') (q : ZA h) : ZA h' := by
  unfold fX6_init at e
  have e := zlet_n (x := h) rfl e
  obtain ⟨hk, e⟩ := zite e
  obtain ⟨hk, e⟩ := zite e
  obtain ⟨_, q, e⟩ := zaN e q
  obtain ⟨hk, e⟩ := zite e
  obtain ⟨_, q, e⟩ := zaR e q
  obtain ⟨hk, e⟩ := zite e
  obtain ⟨_, q, e⟩ := zaN e q
  obtain ⟨_, hc, e⟩ := zbd e
  have q := za_X0 hc q
  obtain ⟨hk, e⟩ := zite e
  obtain ⟨_, q, e⟩ := zaR e q
  obtain ⟨hk, e⟩ := zite e
  obtain ⟨hk, e⟩ := zite e
  obtain ⟨_, q, e⟩ := zaN e q
  obtain ⟨hk, e⟩ := zite e
  obtain ⟨_, q, e⟩ := zaR e q
  obtain ⟨hk, e⟩ := zite e
  obtain ⟨hk, e⟩ := zite e
  obtain ⟨_, q, e⟩ := zaN e q
  obtain ⟨hk, e⟩ := zite e
  obtain ⟨_, q, e⟩ := zaR e q
  obtain ⟨hk, e⟩ := zite e
  obtain ⟨hk, e⟩ := zite e
  obtain ⟨_, q, e⟩ := zaN e q
  obtain ⟨hk, e⟩ := zite e
  obtain ⟨_, q, e⟩ := zaR e q
  obtain ⟨hk, e⟩ := zite e
  obtain ⟨hk, e⟩ := zite e
  obtain ⟨_, q, e⟩ := zaN e q
  obtain ⟨hk, e⟩ := zite e
  obtain ⟨_, q, e⟩ := zaR e q
  obtain ⟨hk, e⟩ := zite e
  obtain ⟨hk, e⟩ := zite e
  obtain ⟨_, q, e⟩ := zaN e q
  obtain ⟨hk, e⟩ := zite e
  obtain ⟨_, q, e⟩ := zaR e q
  obtain ⟨hk, e⟩ := zite e
  obtain ⟨hk, e⟩ := zite e
  obtain ⟨_, q, e⟩ := zaN e q
  obtain ⟨hk, e⟩ := zite e
  obtain ⟨_, q, e⟩ := zaR e q
  obtain ⟨hk, e⟩ := zite e
  obtain ⟨hk, e⟩ := zite e
  obtain ⟨_, q, e⟩ := zaN e q
  obtain ⟨hk, e⟩ := zite e
  obtain ⟨_, q, e⟩ := zaR e q
  obtain ⟨hk, e⟩ := zite e
  obtain ⟨hk, e⟩ := zite e
  obtain ⟨_, q, e⟩ := zaN e q
  obtain ⟨hk, e⟩ := zite e
  obtain ⟨_, q, e⟩ := zaR e q
  injection e with e
  rw [← e]
  exact q
theorem za_X7 {r : Nat} {h h' : Zh} (e : fX7_init r h = some h') (q : ZA h) : ZA h' := by
  unfold fX7_init at e
  have e := zlet_n (x := h) rfl e
  obtain ⟨hk, e⟩ := zite e
  obtain ⟨hk, e⟩ := zite e
  obtain ⟨_, q, e⟩ := zaN e q
  obtain ⟨hk, e⟩ := zite e
  obtain ⟨_, q, e⟩ := zaR e q
  obtain ⟨hk, e⟩ := zite e
  obtain ⟨_, q, e⟩ := zaN e q
  obtain ⟨_, hc, e⟩ := zbd e
  have q := za_X9 hc q
  obtain ⟨hk, e⟩ := zite e
  obtain ⟨_, q, e⟩ := zaR e q
  obtain ⟨hk, e⟩ := zite e
  obtain ⟨hk, e⟩ := zite e
  obtain ⟨_, q, e⟩ := zaN e q
  obtain ⟨hk, e⟩ := zite e
  obtain ⟨_, q, e⟩ := zaR e q
  obtain ⟨hk, e⟩ := zite e
  obtain ⟨hk, e⟩ := zite e
  obtain ⟨_, q, e⟩ := zaN e q
  obtain ⟨hk, e⟩ := zite e
  obtain ⟨_, q, e⟩ := zaR e q
  obtain ⟨hk, e⟩ := zite e
  obtain ⟨hk, e⟩ := zite e
  obtain ⟨_, q, e⟩ := zaN e q
  obtain ⟨hk, e⟩ := zite e
  obtain ⟨_, q, e⟩ := zaR e q
  injection e with e
  rw [← e]
  exact q
theorem za_X4 {r : Nat} {h h' : Zh} (e : fX4_init r h = some h') (q : ZA h) : ZA h' := by
  unfold fX4_init at e
  have e := zlet_n (x := h) rfl e
  obtain ⟨hk, e⟩ := zite e
  obtain ⟨hk, e⟩ := zite e
  obtain ⟨_, q, e⟩ := zaN e q
  obtain ⟨hk, e⟩ := zite e
  obtain ⟨_, q, e⟩ := zaR e q
  obtain ⟨hk, e⟩ := zite e
  obtain ⟨_, q, e⟩ := zaN e q
  obtain ⟨_, hc, e⟩ := zbd e
  have q := za_X9 hc q
  obtain ⟨hk, e⟩ := zite e
  obtain ⟨_, q, e⟩ := zaR e q
  obtain ⟨hk, e⟩ := zite e
  obtain ⟨_, q, e⟩ := zaN e q
  obtain ⟨_, hc, e⟩ := zbd e
  have q := za_X5 hc q
  obtain ⟨hk, e⟩ := zite e
  obtain ⟨_, q, e⟩ := zaR e q
  obtain ⟨hk, e⟩ := zite e
  obtain ⟨_, q, e⟩ := zaN e q
  obtain ⟨_, hc, e⟩ := zbd e
  have q := za_X3 hc q
  obtain ⟨hk, e⟩ := zite e
  obtain ⟨_, q, e⟩ := zaR e q
  obtain ⟨hk, e⟩ := zite e
  obtain ⟨_, q, e⟩ := zaN e q
  obtain ⟨_, hc, e⟩ := zbd e
  have q := za_X8 hc q
  obtain ⟨hk, e⟩ := zite e
  obtain ⟨_, q, e⟩ := zaR e q
  obtain ⟨hk, e⟩ := zite e
  obtain ⟨_, q, e⟩ := zaN e q
  obtain ⟨_, hc, e⟩ := zbd e
  have q := za_X6 hc q
  obtain ⟨hk, e⟩ := zite e
  obtain ⟨_, q, e⟩ := zaR e q
  obtain ⟨hk, e⟩ := zite e
  obtain ⟨hk, e⟩ := zite e
  obtain ⟨_, q, e⟩ := zaN e q
  obtain ⟨hk, e⟩ := zite e
  obtain ⟨_, q, e⟩ := zaN e q
  obtain ⟨_, hc, e⟩ := zbd e
  have q := za_X2 hc q
  obtain ⟨hk, e⟩ := zite e
  obtain ⟨hk, e⟩ := zite e
  obtain ⟨hk, e⟩ := zite e
  obtain ⟨_, q, e⟩ := zaR e q
  obtain ⟨hk, e⟩ := zite e
  obtain ⟨_, q, e⟩ := zaN e q
  obtain ⟨_, hc, e⟩ := zbd e
  have q := za_X2 hc q
  obtain ⟨hk, e⟩ := zite e
  obtain ⟨hk, e⟩ := zite e
  obtain ⟨hk, e⟩ := zite e
  obtain ⟨_, q, e⟩ := zaR e q
  obtain ⟨hk, e⟩ := zite e
  obtain ⟨_, q, e⟩ := zaN e q
  obtain ⟨_, hc, e⟩ := zbd e
  have q := za_X2 hc q
  obtain ⟨hk, e⟩ := zite e
  obtain ⟨hk, e⟩ := zite e
  obtain ⟨hk, e⟩ := zite e
  obtain ⟨_, q, e⟩ := zaR e q
  obtain ⟨hk, e⟩ := zite e
  obtain ⟨_, q, e⟩ := zaN e q
  obtain ⟨_, hc, e⟩ := zbd e
  have q := za_X2 hc q
  obtain ⟨hk, e⟩ := zite e
  obtain ⟨hk, e⟩ := zite e
  obtain ⟨hk, e⟩ := zite e
  obtain ⟨_, q, e⟩ := zaR e q
  obtain ⟨hk, e⟩ := zite e
  obtain ⟨_, q, e⟩ := zaR e q
  obtain ⟨hk, e⟩ := zite e
  obtain ⟨hk, e⟩ := zite e
  obtain ⟨_, q, e⟩ := zaN e q
  obtain ⟨hk, e⟩ := zite e
  obtain ⟨_, q, e⟩ := zaR e q
  obtain ⟨hk, e⟩ := zite e
  obtain ⟨hk, e⟩ := zite e
  obtain ⟨_, q, e⟩ := zaN e q
  obtain ⟨hk, e⟩ := zite e
  obtain ⟨_, q, e⟩ := zaR e q
  obtain ⟨hk, e⟩ := zite e
  obtain ⟨hk, e⟩ := zite e
  obtain ⟨_, q, e⟩ := zaN e q
  obtain ⟨hk, e⟩ := zite e
  obtain ⟨_, q, e⟩ := zaR e q
  injection e with e
  rw [← e]
  exact q
theorem za_X10 {r : Nat} {h h' : Zh} (e : fX10_init r h = some h') (q : ZA h) : ZA h' := by
  unfold fX10_init at e
  have e := zlet_n (x := h) rfl e
  obtain ⟨hk, e⟩ := zite e
  obtain ⟨hk, e⟩ := zite e
  obtain ⟨_, q, e⟩ := zaN e q
  obtain ⟨hk, e⟩ := zite e
  obtain ⟨_, q, e⟩ := zaR e q
  obtain ⟨hk, e⟩ := zite e
  obtain ⟨_, q, e⟩ := zaN e q
  obtain ⟨_, hc, e⟩ := zbd e
  have q := za_X7 hc q
  obtain ⟨hk, e⟩ := zite e
  obtain ⟨_, q, e⟩ := zaR e q
  obtain ⟨hk, e⟩ := zite e
  obtain ⟨_, q, e⟩ := zaN e q
  obtain ⟨_, hc, e⟩ := zbd e
  have q := za_X9 hc q
  obtain ⟨hk, e⟩ := zite e
  obtain ⟨_, q, e⟩ := zaR e q
  obtain ⟨hk, e⟩ := zite e
  obtain ⟨_, q, e⟩ := zaN e q
  obtain ⟨_, hc, e⟩ := zbd e
  have q := za_X9 hc q
  obtain ⟨hk, e⟩ := zite e
  obtain ⟨_, q, e⟩ := zaR e q
  obtain ⟨hk, e⟩ := zite e
  obtain ⟨_, q, e⟩ := zaN e q
  obtain ⟨_, hc, e⟩ := zbd e
  have q := za_X4 hc q
  obtain ⟨hk, e⟩ := zite e
  obtain ⟨_, q, e⟩ := zaR e q
  obtain ⟨hk, e⟩ := zite e
  obtain ⟨hk, e⟩ := zite e
  obtain ⟨_, q, e⟩ := zaN e q
  obtain ⟨hk, e⟩ := zite e
  obtain ⟨_, q, e⟩ := zaN e q
  obtain ⟨_, hc, e⟩ := zbd e
  have q := za_X1 hc q
  obtain ⟨hk, e⟩ := zite e
  obtain ⟨hk, e⟩ := zite e
  obtain ⟨hk, e⟩ := zite e
  obtain ⟨_, q, e⟩ := zaR e q
  obtain ⟨hk, e⟩ := zite e
  obtain ⟨_, q, e⟩ := zaN e q
  obtain ⟨_, hc, e⟩ := zbd e
  have q := za_X1 hc q
  obtain ⟨hk, e⟩ := zite e
  obtain ⟨hk, e⟩ := zite e
  obtain ⟨hk, e⟩ := zite e
  obtain ⟨_, q, e⟩ := zaR e q
  obtain ⟨hk, e⟩ := zite e
  obtain ⟨_, q, e⟩ := zaN e q
  obtain ⟨_, hc, e⟩ := zbd e
  have q := za_X1 hc q
  obtain ⟨hk, e⟩ := zite e
  obtain ⟨hk, e⟩ := zite e
  obtain ⟨hk, e⟩ := zite e
  obtain ⟨_, q, e⟩ := zaR e q
  obtain ⟨hk, e⟩ := zite e
  obtain ⟨_, q, e⟩ := zaR e q
  obtain ⟨hk, e⟩ := zite e
  obtain ⟨hk, e⟩ := zite e
  obtain ⟨_, q, e⟩ := zaN e q
  obtain ⟨hk, e⟩ := zite e
  obtain ⟨_, q, e⟩ := zaR e q
  injection e with e
  rw [← e]
  exact q
theorem za_X12 {r : Nat} {h h' : Zh} (e : fX12_init r h = some h') (q : ZA h) : ZA h' := by
  unfold fX12_init at e
  have e := zlet_n (x := h) rfl e
  obtain ⟨hk, e⟩ := zite e
  obtain ⟨_, q, e⟩ := yaI e q hk (by decide)
  obtain ⟨hk, e⟩ := zite e
  obtain ⟨hk, e⟩ := zite e
  obtain ⟨_, q, e⟩ := zaN e q
  obtain ⟨hk, e⟩ := zite e
  obtain ⟨_, q, e⟩ := zaR e q
  obtain ⟨hk, e⟩ := zite e
  obtain ⟨hk, e⟩ := zite e
  obtain ⟨_, q, e⟩ := zaN e q
  obtain ⟨hk, e⟩ := zite e
  obtain ⟨_, q, e⟩ := zaR e q
  obtain ⟨hk, e⟩ := zite e
  obtain ⟨hk, e⟩ := zite e
  obtain ⟨_, q, e⟩ := zaN e q
  obtain ⟨hk, e⟩ := zite e
  obtain ⟨_, q, e⟩ := zaR e q
  obtain ⟨hk, e⟩ := zite e
  obtain ⟨hk, e⟩ := zite e
  obtain ⟨_, q, e⟩ := zaN e q
  obtain ⟨hk, e⟩ := zite e
  obtain ⟨_, q, e⟩ := zaR e q
  obtain ⟨hk, e⟩ := zite e
  obtain ⟨hk, e⟩ := zite e
  obtain ⟨_, q, e⟩ := zaN e q
  obtain ⟨hk, e⟩ := zite e
  obtain ⟨_, q, e⟩ := zaR e q
  obtain ⟨hk, e⟩ := zite e
  obtain ⟨hk, e⟩ := zite e
  obtain ⟨_, q, e⟩ := zaN e q
  obtain ⟨hk, e⟩ := zite e
  obtain ⟨_, q, e⟩ := zaR e q
  obtain ⟨hk, e⟩ := zite e
  obtain ⟨hk, e⟩ := zite e
  obtain ⟨_, q, e⟩ := zaN e q
  obtain ⟨hk, e⟩ := zite e
  obtain ⟨_, q, e⟩ := zaR e q
  obtain ⟨hk, e⟩ := zite e
  obtain ⟨hk, e⟩ := zite e
  obtain ⟨_, q, e⟩ := zaN e q
  obtain ⟨hk, e⟩ := zite e
  obtain ⟨_, q, e⟩ := zaR e q
  obtain ⟨hk, e⟩ := zite e
  obtain ⟨hk, e⟩ := zite e
  obtain ⟨_, q, e⟩ := zaN e q
  obtain ⟨hk, e⟩ := zite e
  obtain ⟨_, q, e⟩ := zaR e q
  obtain ⟨hk, e⟩ := zite e
  obtain ⟨hk, e⟩ := zite e
  obtain ⟨_, q, e⟩ := zaN e q
  obtain ⟨hk, e⟩ := zite e
  obtain ⟨_, q, e⟩ := zaR e q
  obtain ⟨hk, e⟩ := zite e
  obtain ⟨hk, e⟩ := zite e
  obtain ⟨_, q, e⟩ := zaN e q
  obtain ⟨hk, e⟩ := zite e
  obtain ⟨_, q, e⟩ := zaR e q
  obtain ⟨hk, e⟩ := zite e
  obtain ⟨hk, e⟩ := zite e
  obtain ⟨_, q, e⟩ := zaN e q
  obtain ⟨hk, e⟩ := zite e
  obtain ⟨_, q, e⟩ := zaR e q
  obtain ⟨hk, e⟩ := zite e
  obtain ⟨hk, e⟩ := zite e
  obtain ⟨_, q, e⟩ := zaN e q
  obtain ⟨hk, e⟩ := zite e
  obtain ⟨_, q, e⟩ := zaR e q
  obtain ⟨hk, e⟩ := zite e
  obtain ⟨hk, e⟩ := zite e
  obtain ⟨_, q, e⟩ := zaN e q
  obtain ⟨hk, e⟩ := zite e
  obtain ⟨_, q, e⟩ := zaR e q
  obtain ⟨hk, e⟩ := zite e
  obtain ⟨hk, e⟩ := zite e
  obtain ⟨_, q, e⟩ := zaN e q
  obtain ⟨hk, e⟩ := zite e
  obtain ⟨_, q, e⟩ := zaR e q
  obtain ⟨hk, e⟩ := zite e
  obtain ⟨hk, e⟩ := zite e
  obtain ⟨_, q, e⟩ := zaN e q
  obtain ⟨hk, e⟩ := zite e
  obtain ⟨_, q, e⟩ := zaR e q
  obtain ⟨hk, e⟩ := zite e
  obtain ⟨hk, e⟩ := zite e
  obtain ⟨_, q, e⟩ := zaN e q
  obtain ⟨hk, e⟩ := zite e
  obtain ⟨_, q, e⟩ := zaR e q
  obtain ⟨hk, e⟩ := zite e
  obtain ⟨hk, e⟩ := zite e
  obtain ⟨_, q, e⟩ := zaN e q
  obtain ⟨hk, e⟩ := zite e
  obtain ⟨_, q, e⟩ := zaR e q
  obtain ⟨hk, e⟩ := zite e
  obtain ⟨hk, e⟩ := zite e
  obtain ⟨_, q, e⟩ := zaN e q
  obtain ⟨hk, e⟩ := zite e
  obtain ⟨_, q, e⟩ := zaR e q
  obtain ⟨hk, e⟩ := zite e
  obtain ⟨hk, e⟩ := zite e
  obtain ⟨_, q, e⟩ := zaN e q
  obtain ⟨hk, e⟩ := zite e
  obtain ⟨_, q, e⟩ := zaR e q
  obtain ⟨hk, e⟩ := zite e
  obtain ⟨hk, e⟩ := zite e
  obtain ⟨_, q, e⟩ := zaN e q
  obtain ⟨hk, e⟩ := zite e
  obtain ⟨_, q, e⟩ := zaR e q
  obtain ⟨hk, e⟩ := zite e
  obtain ⟨hk, e⟩ := zite e
  obtain ⟨_, q, e⟩ := zaN e q
  obtain ⟨hk, e⟩ := zite e
  obtain ⟨_, q, e⟩ := zaR e q
  obtain ⟨hk, e⟩ := zite e
  obtain ⟨hk, e⟩ := zite e
  obtain ⟨_, q, e⟩ := zaN e q
  obtain ⟨hk, e⟩ := zite e
  obtain ⟨_, q, e⟩ := zaR e q
  injection e with e
  rw [← e]
  exact q
