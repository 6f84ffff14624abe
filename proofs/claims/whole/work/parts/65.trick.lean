/-! a trick's numbers; the search finds every hand -/
abbrev Tk : Type := Nat × Nat × Nat × Nat × Bool × Bool × Bool
def tn (t : Tk) : Nat := t.1
def tu (t : Tk) : Nat := t.2.1
def tk (t : Tk) : Nat := t.2.2.1
def tp (t : Tk) : Nat := t.2.2.2.1
def tst (t : Tk) : Bool := t.2.2.2.2.1
def thd (t : Tk) : Bool := t.2.2.2.2.2.1
def tti (t : Tk) : Bool := t.2.2.2.2.2.2
def tsh (t : Tk) : Nat := tk t - tp t
def tT (t : Tk) : Nat := if tti t then 2 ^ tsh t else 1
def tH (t : Tk) : Nat := hnd (tn t) (tk t) (!tst t)
def tR (t : Tk) : Nat := ff (tn t) (tsh t) * tT t
def Tok (t : Tk) : Prop := 4 ≤ tn t ∧ tn t ≤ 12 ∧ 1 ≤ tu t ∧ tu t ≤ 4 ∧ tn t % tu t = 0 ∧ 2 ≤ tk t ∧ tk t ≤ 5 ∧ tk t ≤ tn t ∧ 1 ≤ tp t ∧ tp t ≤ 2 ∧ tp t < tk t ∧ tH t ≤ 2000 ∧ (tst t = true → thd t = false)
theorem hnd_pos : ∀ n : Nat, n < 13 → ∀ k : Nat, k < 6 → k ≤ n → 0 < (pch n k).toNat ∧ 0 < ff n k ∧ 0 ≤ pch n k := by decide +kernel
theorem tT_b (t : Tk) (h : tsh t ≤ 4) : 1 ≤ tT t ∧ tT t ≤ 16 := by
  unfold tT
  split
  · have : 2 ^ tsh t ≤ 2 ^ 4 := Nat.pow_le_pow_right (by decide) h
    exact ⟨Nat.two_pow_pos _, by omega⟩
  · exact ⟨by omega, by omega⟩
theorem ff4 : ∀ n : Nat, n < 13 → ∀ i : Nat, i < 5 → ff n i ≤ 11880 := by decide +kernel
theorem Tok.b {t : Tk} (q : Tok t) : 4 ≤ tn t ∧ tn t ≤ 12 ∧ 1 ≤ tu t ∧ tu t ≤ 4 ∧ tn t % tu t = 0 ∧ 2 ≤ tk t ∧ tk t ≤ 5 ∧ tk t ≤ tn t ∧ 1 ≤ tp t ∧ tp t ≤ 2 ∧ tp t < tk t ∧ tH t ≤ 2000 ∧ tsh t + tp t = tk t ∧ 1 ≤ tsh t ∧ tsh t ≤ 4 ∧ 1 ≤ tT t ∧ tT t ≤ 16 ∧ 1 ≤ tR t ∧ tR t ≤ 190080 ∧ 1 ≤ tH t ∧ ff (tn t) (tsh t) ≤ 11880 ∧ 1 ≤ ff (tn t) (tsh t) := by
  obtain ⟨a1, a2, a3, a4, a5, a6, a7, a8, a9, a10, a11, a12, a13⟩ := q
  have hs : tsh t = tk t - tp t := rfl
  have hT := tT_b t (by omega)
  have h1 := ff4 (tn t) (by omega) (tsh t) (by omega)
  have h2 := (hnd_pos (tn t) (by omega) (tsh t) (by omega) (by omega)).2.1
  have h3 := hnd_pos (tn t) (by omega) (tk t) (by omega) (by omega)
  have hR : tR t = ff (tn t) (tsh t) * tT t := rfl
  have h5 : 1 * 1 ≤ ff (tn t) (tsh t) * tT t := Nat.mul_le_mul h2 hT.1
  have h6 : ff (tn t) (tsh t) * tT t ≤ 11880 * 16 := Nat.mul_le_mul h1 hT.2
  refine ⟨a1, a2, a3, a4, a5, a6, a7, a8, a9, a10, a11, a12, by omega, by omega, by omega, hT.1, hT.2, by omega, by omega, ?_, h1, h2⟩
  unfold tH hnd
  split
  · exact h3.1
  · exact h3.2.1
noncomputable def hc (t : Tk) (h i : Nat) : Nat := hcd (tn t) (tk t) (!tst t) h i
/-- unlike cards of a deck; rising -/
def vld (n k : Nat) (rs : Bool) (w : Nat → Nat) : Prop := (∀ i, i < k → w i < n) ∧ ∀ j, j < k → ∀ i, i < j → if rs = true then w i < w j else w i ≠ w j
theorem vld.dst {n k : Nat} {rs : Bool} {w : Nat → Nat} (h : vld n k rs w) : dst w k := by
  intro i j h1 h2
  have := h.2 j h2 i h1
  split at this
  · omega
  · exact this
theorem folN_min {u : Nat → Bool} {n y : Nat} : ∀ (f x : Nat), n < f + x → x ≤ y → y < n → u y = false → folN u n f x ≤ y
  | 0, x, h, h1, h2, _ => by omega
  | f + 1, x, h, h1, h2, h3 => by
    rw [folN, if_neg (by omega)]
    by_cases c : u x = true
    · rw [if_pos c]
      refine folN_min f (x + 1) (by omega) ?_ h2 h3
      have : x ≠ y := fun e => by rw [e, h3] at c; cases c
      omega
    · rw [if_neg c]; exact h1
theorem nxt_min {rs : Bool} {p : List Nat} {n c y : Nat} (hn : n ≤ 12) (h1 : c ≤ y) (h2 : y < n) (h3 : rs = false → ¬ y ∈ p) : nxt rs p n c ≤ y := by
  refine folN_min 20 c (by omega) h1 h2 ?_
  cases rs
  · simp [h3 rfl]
  · simp
theorem pw_in {p : List Nat} {y : Nat} (h : y ∈ p) : ∃ i, i < p.length ∧ pw p i = y := by
  have := pw_mem p y
  rw [show p.contains y = true by simp [h]] at this
  exact (fmask_bit _ _ _).mp this
def ahead (e p : List Nat) (c : Nat) : Prop := ∃ i, i ≤ p.length ∧ (∀ j, j < i → pw e j = pw p j) ∧ (i = p.length → c ≤ pw e i) ∧ (i < p.length → pw p i < pw e i)
theorem pw_ext {e p : List Nat} (hl : e.length = p.length) (h : ∀ j, j < e.length → pw e j = pw p j) : e = p := by
  refine List.ext_getElem hl fun i h1 h2 => ?_
  have := h (e.length - 1 - i) (by omega)
  unfold pw at this
  rw [show e.length - 1 - (e.length - 1 - i) = i by omega, show p.length - 1 - (e.length - 1 - i) = i by omega, List.getD_eq_getElem?_getD, List.getD_eq_getElem?_getD, List.getElem?_eq_getElem h1, List.getElem?_eq_getElem h2] at this
  exact this
theorem drun_all {n k : Nat} {rs : Bool} {H : Nat} (hn : n ≤ 12) {e : List Nat} (he : e.length = k) (hv : vld n k rs (pw e)) : ∀ (f : Nat) (p : List Nat) (c h : Nat), dchk n k rs H f p c h = true → p.length < k → ahead e p c → e ∈ drun n k rs f p c := by
  intro f
  induction f with
  | zero => intro p c h q; cases q
  | succ f ih =>
    intro p c h q hp ⟨i, h1, h2, h3, h4⟩
    rw [dchk_s] at q
    rw [drun_s]
    have key : i = p.length → nxt rs p n c ≤ pw e i := by
      intro ei
      refine nxt_min hn (h3 ei) (hv.1 i (by omega)) (fun er hm => ?_)
      obtain ⟨j, hj, ej⟩ := pw_in hm
      have := hv.2 i (by omega) j (by omega)
      rw [er, if_neg (by decide), h2 j (by omega)] at this
      exact this ej
    by_cases c1 : n ≤ nxt rs p n c
    · rw [if_pos c1] at q ⊢
      have hi : i ≠ p.length := fun ei => by
        have := key ei
        have := hv.1 i (by omega)
        omega
      cases p with
      | nil => exact absurd (Nat.le_zero.mp h1) hi
      | cons y p =>
        simp only [List.length_cons] at h1 hi hp
        refine ih p (y + 1) h q (by omega) ⟨i, by omega, fun j hj => by rw [h2 j hj, pw_low _ _ (by omega)], fun ei => ?_, fun hi2 => ?_⟩
        · have := h4 (by simp only [List.length_cons]; omega)
          rw [ei, pw_top] at this
          rw [ei]; omega
        · have := h4 (by simp only [List.length_cons]; omega)
          rw [pw_low _ _ hi2] at this
          exact this
    · rw [if_neg c1] at q ⊢
      by_cases c2 : p.length + 1 = k
      · rw [if_pos c2] at q ⊢
        rw [Bool.and_eq_true] at q
        by_cases c3 : i = p.length ∧ pw e i = nxt rs p n c
        · have : e = nxt rs p n c :: p := by
            refine pw_ext (by simp; omega) (fun j hj => ?_)
            by_cases c4 : j = p.length
            · rw [c4, pw_top, ← c3.2, c3.1]
            · rw [pw_low _ _ (by omega)]
              exact h2 j (by omega)
          rw [← this]
          exact List.mem_cons_self
        · refine List.mem_cons_of_mem _ (ih p _ _ q.2 hp ⟨i, h1, h2, fun ei => ?_, h4⟩)
          have := key ei
          have : pw e i ≠ nxt rs p n c := fun x => c3 ⟨ei, x⟩
          omega
      · rw [if_neg c2] at q ⊢
        by_cases c3 : i = p.length
        · have k3 := key c3
          by_cases c4 : pw e i = nxt rs p n c
          · refine ih _ _ _ q (by simp; omega) ⟨p.length + 1, by simp, fun j hj => ?_, fun _ => ?_, fun hh => by simp at hh⟩
            · by_cases c5 : j = p.length
              · rw [c5, pw_top, ← c4, c3]
              · rw [pw_low _ _ (by omega)]
                exact h2 j (by omega)
            · have := hv.2 (p.length + 1) (by omega) p.length (by omega)
              cases rs
              · simp
              · rw [if_pos rfl] at this ⊢
                rw [c3] at c4
                omega
          · refine ih _ _ _ q (by simp; omega) ⟨p.length, by simp, fun j hj => ?_, fun hh => by simp at hh, fun _ => ?_⟩
            · rw [pw_low _ _ (by omega)]
              exact h2 j (by omega)
            · rw [pw_top, ← c3]; omega
        · refine ih _ _ _ q (by simp; omega) ⟨i, by simp; omega, fun j hj => ?_, fun hh => by simp at hh; omega, fun _ => ?_⟩
          · rw [pw_low _ _ (by omega)]
            exact h2 j (by omega)
          · rw [pw_low _ _ (by omega)]
            exact h4 (by omega)
def lst (w : Nat → Nat) : Nat → List Nat
  | 0 => []
  | k + 1 => w k :: lst w k
theorem lst_len (w : Nat → Nat) : ∀ k, (lst w k).length = k
  | 0 => rfl
  | k + 1 => by rw [lst, List.length_cons, lst_len w k]
theorem lst_pw (w : Nat → Nat) : ∀ k i, i < k → pw (lst w k) i = w i
  | 0, i, h => by omega
  | k + 1, i, h => by
    rw [lst]
    by_cases c : i = k
    · have := pw_top (w k) (lst w k)
      rw [lst_len] at this
      rw [c, this]
    · rw [pw_low _ _ (by rw [lst_len]; omega)]
      exact lst_pw w k i (by omega)
theorem vld.congr {n k : Nat} {rs : Bool} {w v : Nat → Nat} (h : vld n k rs w) (e : ∀ i, i < k → w i = v i) : vld n k rs v := ⟨fun i hi => by rw [← e i hi]; exact h.1 i hi, fun j hj i hi => by rw [← e i (by omega), ← e j hj]; exact h.2 j hj i hi⟩
theorem hcd_ex {n k : Nat} {rs : Bool} (hn : n ≤ 12) (hk1 : 1 ≤ k) (hk : k ≤ 5) (hkn : k ≤ n) (hH : hnd n k rs ≤ 2000) {w : Nat → Nat} (hv : vld n k rs w) : ∃ h, h < hnd n k rs ∧ ∀ i, i < k → hcd n k rs h i = w i := by
  have hm : lst w k ∈ dls n k rs := drun_all hn (lst_len w k) (hv.congr (fun i hi => (lst_pw w k i hi).symm)) dF [] 0 0 (dls_ok hn hk1 hk hkn hH) (by simp; omega) ⟨0, by simp, fun j hj => by omega, fun _ => by omega, fun hh => by simp at hh⟩
  obtain ⟨h, hh, e⟩ := List.getElem_of_mem hm
  refine ⟨h, by rw [← dls_len hn hk1 hk hkn hH]; exact hh, fun i hi => ?_⟩
  unfold hcd
  rw [List.getD_eq_getElem?_getD, List.getElem?_eq_getElem hh, Option.getD_some, e, lst_pw w k i hi]
theorem hcd_vld {n k : Nat} {rs : Bool} (hn : n ≤ 12) (hk1 : 1 ≤ k) (hk : k ≤ 5) (hkn : k ≤ n) (hH : hnd n k rs ≤ 2000) {h : Nat} (hh : h < hnd n k rs) : vld n k rs (hcd n k rs h) := by
  obtain ⟨e, -, e2, p1, p2, p3, -⟩ := hcd_at hn hk1 hk hkn hH hh
  exact ⟨fun i hi => by rw [e2]; exact p2 i hi, fun j hj i hi => by rw [e2, e2]; exact p3 j hj i hi⟩
theorem bhd_congr {n k : Nat} {s v : Nat → Nat} : ∀ a, (∀ i, i < a → s i = v i) → bhd n k s a = bhd n k v a
  | 0, _ => rfl
  | a + 1, h => by rw [bhd, bhd, bhd_congr a (fun i hi => h i (by omega)), h a (by omega)]
/-- the number of a hand -/
def rnk (n k : Nat) (rs : Bool) (w : Nat → Nat) : Int := if rs = true then pch n k - 1 - bhd n k w k else rowN n w k
theorem rnk_congr {n k : Nat} {rs : Bool} {w v : Nat → Nat} (e : ∀ i, i < k → w i = v i) : rnk n k rs w = rnk n k rs v := by
  unfold rnk
  rw [bhd_congr k e, rowN_congr k e]
theorem hcd_rnk {n k : Nat} {rs : Bool} (hn : n ≤ 12) (hk1 : 1 ≤ k) (hk : k ≤ 5) (hkn : k ≤ n) (hH : hnd n k rs ≤ 2000) {h : Nat} (hh : h < hnd n k rs) : rnk n k rs (hcd n k rs h) = h := by
  obtain ⟨e, -, e2, p1, p2, p3, p4⟩ := hcd_at hn hk1 hk hkn hH hh
  rw [rnk_congr (v := pw e) (fun i _ => e2 i)]
  unfold rnk
  cases rs
  · rw [if_neg (by decide)] at p4 ⊢
    rw [p4]
  · rw [if_pos rfl] at p4 ⊢
    exact p4
theorem rnk_ok {n k : Nat} {rs : Bool} (hn : n ≤ 12) (hk1 : 1 ≤ k) (hk : k ≤ 5) (hkn : k ≤ n) (hH : hnd n k rs ≤ 2000) {w : Nat → Nat} (hv : vld n k rs w) : ∃ h, h < hnd n k rs ∧ rnk n k rs w = h ∧ ∀ i, i < k → hcd n k rs h i = w i := by
  obtain ⟨h, h1, h2⟩ := hcd_ex hn hk1 hk hkn hH hv
  exact ⟨h, h1, by rw [← rnk_congr h2]; exact hcd_rnk hn hk1 hk hkn hH h1, h2⟩
