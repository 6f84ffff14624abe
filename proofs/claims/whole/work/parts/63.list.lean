/-! the class's lister against the search -/
theorem si_ofN (n : Nat) : Int32.ofNat n = iI (n : Int) := rfl
theorem folN_congr {u v : Nat → Bool} {n : Nat} : ∀ (f x : Nat), (∀ y, x ≤ y → y < n → u y = v y) → folN u n f x = folN v n f x
  | 0, _, _ => rfl
  | f + 1, x, h => by
    rw [folN, folN]
    by_cases c : n ≤ x
    · rw [if_pos c, if_pos c]
    · rw [if_neg c, if_neg c, h x (Nat.le_refl _) (by omega), folN_congr f (x + 1) (fun y h1 h2 => h y (by omega) h2)]
theorem folN_le {u : Nat → Bool} {n : Nat} : ∀ (f x : Nat), folN u n f x ≤ n
  | 0, _ => Nat.le_refl _
  | f + 1, x => by
    rw [folN]
    split
    · exact Nat.le_refl _
    · split
      · exact folN_le f (x + 1)
      · omega
theorem folN_ge {u : Nat → Bool} {n : Nat} : ∀ (f x : Nat), x ≤ n → x ≤ folN u n f x
  | 0, x, h => h
  | f + 1, x, h => by
    rw [folN]
    split
    · exact h
    · split
      · have := folN_ge (u := u) (n := n) f (x + 1) (by omega); omega
      · exact Nat.le_refl _
theorem pw_mem (p : List Nat) (y : Nat) : (fmask (pw p) p.length).testBit y = p.contains y := by
  have h : (fmask (pw p) p.length).testBit y = true ↔ p.contains y = true := by
    rw [fmask_bit, List.contains_iff_mem]
    constructor
    · rintro ⟨i, hi, e⟩
      unfold pw at e
      rw [List.getD_eq_getElem?_getD, List.getElem?_eq_getElem (by omega), Option.getD_some] at e
      rw [← e]
      exact List.getElem_mem _
    · intro hm
      obtain ⟨i, hi, e⟩ := List.getElem_of_mem hm
      refine ⟨p.length - 1 - i, by omega, ?_⟩
      unfold pw
      rw [show p.length - 1 - (p.length - 1 - i) = i by omega, List.getD_eq_getElem?_getD, List.getElem?_eq_getElem hi, Option.getD_some, e]
  cases e1 : (fmask (pw p) p.length).testBit y <;> cases e2 : p.contains y <;> simp_all
def mskOf (rs : Bool) (p : List Nat) : Nat := if rs then 0 else fmask (pw p) p.length
theorem nxt_msk (rs : Bool) (p : List Nat) (n c : Nat) : folN (fun y => (mskOf rs p).testBit y) n 20 c = nxt rs p n c := by
  unfold nxt
  refine folN_congr 20 c (fun y _ _ => ?_)
  unfold mskOf
  cases rs
  · rw [if_neg (by decide), pw_mem]; simp
  · simp
theorem nxt_le (rs : Bool) (p : List Nat) (n c : Nat) : nxt rs p n c ≤ n := folN_le _ _
theorem list_step {r0 rw out n k L cnt stp c : Nat} {rs : Bool} {p : List Nat} {g h : Zh} (hg1 : zK g = zK h) (hg2 : zL g = zL h) (k1 : zK h r0 = 5) (k2 : zR h r0 0 = some rw) (k3 : zK h rw = 100) (k4 : zL h rw = 5) (o1 : zK h out = 100) (o2 : zL h out = L) (hro : out ≠ rw) (hL : L < 2147483648) (hk : k ≤ 5) (hn : n ≤ 12) (hp : p.length < k) (hpn : ∀ i, i < p.length → zI h rw i = iI (pw p i) ∧ pw p i < n) (hc : zI h rw p.length = iI ((c : Int) - 1)) (hcn : c ≤ n) (hcnt : cnt < L) (hstp : stp < 1000000) : bX5_list_16 g r0 (iI n) (iI k) (iI (bI rs)) out (iI cnt) (iI p.length) (iI stp) h = if n ≤ nxt rs p n c then some (0, (iI cnt, iI ((p.length : Int) - 1), iI ((stp + 1 : Nat) : Int), zsI h rw p.length (iI (nxt rs p n c)))) else if p.length + 1 = k then some (0, (iI ((cnt + 1 : Nat) : Int), iI p.length, iI ((stp + 1 : Nat) : Int), zsI (zsI h rw p.length (iI (nxt rs p n c))) out cnt (iI (pkf (pw (nxt rs p n c :: p)) 0 k)))) else some (0, (iI cnt, iI ((p.length + 1 : Nat) : Int), iI ((stp + 1 : Nat) : Int), zsI (zsI h rw p.length (iI (nxt rs p n c))) rw (p.length + 1) (if rs then iI (nxt rs p n c) else iI (-1)))) := by
  have e0 := fX5_following_eq (r0 := r0) (rw := rw) (a := p.length) (n := n) (c := c) (m := mskOf rs p) (rs := bI rs) (w := pw p) (h := h) k1 k2 k3 k4 (by omega) hn (fun i hi => ⟨(hpn i hi).1, by have := (hpn i hi).2; omega⟩) hc hcn (by cases rs <;> simp [bI, mskOf])
  rw [nxt_msk] at e0
  have hx := nxt_le rs p n c
  unfold bX5_list_16
  have d1 : ¬ (1000000 : Int) ≤ stp := by omega
  have d2 : ¬ (p.length : Int) < 0 := by omega
  have d3 : ¬ (L : Int) ≤ cnt := by omega
  by_cases c1 : n ≤ nxt rs p n c
  · have c3 : ¬ ((nxt rs p n c : Nat) : Int) < n := by omega
    simp (maxSteps := 1000000) (disch := (first | assumption | exact ne_b rfl | omega)) only [↓reduceIte, ↓zlet_eq, ↓bdR_sI, ↓bdR_sJ, ↓bdR_aI, zc2_some, Option.bind_some, ↓si_m1, ↓si_m2, ↓si_m3, iI_lit, iI_add, iI_sub, iI_mul, leT, leF, ltT, ltF, eqT, eqF, zinT, clI, Int.toNat_natCast, tN1, tNa, tN0, tNm, if_pos, if_neg, zI_sI, zI_sJ, zI_sR, zJ_sI, zJ_sJ, zJ_sR, zR_sI, zR_sJ, zR_sR, zK_sI, zK_sJ, zK_sR, zL_sI, zL_sJ, zL_sR, zI_aI, zJ_aI, zR_aI, zK_aI, zL_aI, z2_at, z2_a, z2_k, z1_self, z1_ne, true_and, and_true, bIt, bIf, Bool.false_eq_true, Bool.true_eq_false, eq_self, not_true_eq_false, not_false_eq_true, hg1, hg2, o1, o2, ↓bd_of k2, k3, k4, ↓zc_of e0, si_ofN, c1]
    rfl
  · have c4 : ((nxt rs p n c : Nat) : Int) < n := by omega
    by_cases c2 : p.length + 1 = k
    · have c3 : (p.length : Int) = (k : Int) - 1 := by omega
      have e1 := fX5_pack_eq (r0 := r0) (rw := rw) (n := k) (w := pw (nxt rs p n c :: p)) (h := zsI h rw p.length (iI (nxt rs p n c))) k1 k2 k3 k4 hk (fun i hi => by
        by_cases c4 : i = p.length
        · subst c4
          rw [pw_top]
          exact ⟨by simp (maxSteps := 1000000) (disch := (first | assumption | exact ne_b rfl | omega)) only [↓reduceIte, ↓zlet_eq, ↓bdR_sI, ↓bdR_sJ, ↓bdR_aI, zc2_some, Option.bind_some, ↓si_m1, ↓si_m2, ↓si_m3, iI_lit, iI_add, iI_sub, iI_mul, leT, leF, ltT, ltF, eqT, eqF, zinT, clI, Int.toNat_natCast, tN1, tNa, tN0, tNm, if_pos, if_neg, zI_sI, zI_sJ, zI_sR, zJ_sI, zJ_sJ, zJ_sR, zR_sI, zR_sJ, zR_sR, zK_sI, zK_sJ, zK_sR, zL_sI, zL_sJ, zL_sR, zI_aI, zJ_aI, zR_aI, zK_aI, zL_aI, z2_at, z2_a, z2_k, z1_self, z1_ne, true_and, and_true, bIt, bIf, Bool.false_eq_true, Bool.true_eq_false, eq_self, not_true_eq_false, not_false_eq_true], by omega⟩
        · rw [pw_low _ _ (by omega)]
          have := hpn i (by omega)
          exact ⟨by simp (maxSteps := 1000000) (disch := (first | assumption | exact ne_b rfl | omega)) only [↓reduceIte, ↓zlet_eq, ↓bdR_sI, ↓bdR_sJ, ↓bdR_aI, zc2_some, Option.bind_some, ↓si_m1, ↓si_m2, ↓si_m3, iI_lit, iI_add, iI_sub, iI_mul, leT, leF, ltT, ltF, eqT, eqF, zinT, clI, Int.toNat_natCast, tN1, tNa, tN0, tNm, if_pos, if_neg, zI_sI, zI_sJ, zI_sR, zJ_sI, zJ_sJ, zJ_sR, zR_sI, zR_sJ, zR_sR, zK_sI, zK_sJ, zK_sR, zL_sI, zL_sJ, zL_sR, zI_aI, zJ_aI, zR_aI, zK_aI, zL_aI, z2_at, z2_a, z2_k, z1_self, z1_ne, true_and, and_true, bIt, bIf, Bool.false_eq_true, Bool.true_eq_false, eq_self, not_true_eq_false, not_false_eq_true, this.1], by omega⟩)
      simp (maxSteps := 1000000) (disch := (first | assumption | exact ne_b rfl | omega)) only [↓reduceIte, ↓zlet_eq, ↓bdR_sI, ↓bdR_sJ, ↓bdR_aI, zc2_some, Option.bind_some, ↓si_m1, ↓si_m2, ↓si_m3, iI_lit, iI_add, iI_sub, iI_mul, leT, leF, ltT, ltF, eqT, eqF, zinT, clI, Int.toNat_natCast, tN1, tNa, tN0, tNm, if_pos, if_neg, zI_sI, zI_sJ, zI_sR, zJ_sI, zJ_sJ, zJ_sR, zR_sI, zR_sJ, zR_sR, zK_sI, zK_sJ, zK_sR, zL_sI, zL_sJ, zL_sR, zI_aI, zJ_aI, zR_aI, zK_aI, zL_aI, z2_at, z2_a, z2_k, z1_self, z1_ne, true_and, and_true, bIt, bIf, Bool.false_eq_true, Bool.true_eq_false, eq_self, not_true_eq_false, not_false_eq_true, hg1, hg2, o1, o2, ↓bd_of k2, k3, k4, ↓zc_of e0, si_ofN, c1, c2, e1]
      rfl
    · have c3 : ¬ ((p.length : Int) = (k : Int) - 1) := by omega
      cases rs
      · simp (maxSteps := 1000000) (disch := (first | assumption | exact ne_b rfl | omega)) only [↓reduceIte, ↓zlet_eq, ↓bdR_sI, ↓bdR_sJ, ↓bdR_aI, zc2_some, Option.bind_some, ↓si_m1, ↓si_m2, ↓si_m3, iI_lit, iI_add, iI_sub, iI_mul, leT, leF, ltT, ltF, eqT, eqF, zinT, clI, Int.toNat_natCast, tN1, tNa, tN0, tNm, if_pos, if_neg, zI_sI, zI_sJ, zI_sR, zJ_sI, zJ_sJ, zJ_sR, zR_sI, zR_sJ, zR_sR, zK_sI, zK_sJ, zK_sR, zL_sI, zL_sJ, zL_sR, zI_aI, zJ_aI, zR_aI, zK_aI, zL_aI, z2_at, z2_a, z2_k, z1_self, z1_ne, true_and, and_true, bIt, bIf, Bool.false_eq_true, Bool.true_eq_false, eq_self, not_true_eq_false, not_false_eq_true, hg1, hg2, o1, o2, ↓bd_of k2, k3, k4, ↓zc_of e0, si_ofN, c1, c2, bI]
        rfl
      · have e5 : ((p.length : Int) + 1 - 1) = (p.length : Int) := by omega
        simp (maxSteps := 1000000) (disch := (first | assumption | exact ne_b rfl | omega)) only [↓reduceIte, ↓zlet_eq, ↓bdR_sI, ↓bdR_sJ, ↓bdR_aI, zc2_some, Option.bind_some, ↓si_m1, ↓si_m2, ↓si_m3, iI_lit, iI_add, iI_sub, iI_mul, leT, leF, ltT, ltF, eqT, eqF, zinT, clI, Int.toNat_natCast, tN1, tNa, tN0, tNm, if_pos, if_neg, zI_sI, zI_sJ, zI_sR, zJ_sI, zJ_sJ, zJ_sR, zR_sI, zR_sJ, zR_sR, zK_sI, zK_sJ, zK_sR, zL_sI, zL_sJ, zL_sR, zI_aI, zJ_aI, zR_aI, zK_aI, zL_aI, z2_at, z2_a, z2_k, z1_self, z1_ne, true_and, and_true, bIt, bIf, Bool.false_eq_true, Bool.true_eq_false, eq_self, not_true_eq_false, not_false_eq_true, hg1, hg2, o1, o2, ↓bd_of k2, k3, k4, ↓zc_of e0, si_ofN, c1, c2, bI, e5]
        rfl
theorem list_run {r0 rw out n k L H : Nat} {rs : Bool} (hro : out ≠ rw) (hL : L < 2147483648) (hk : k ≤ 5) (hk1 : 1 ≤ k) (hn : n ≤ 12) (hH : H ≤ L) (g : Zh) : ∀ (f : Nat) (p : List Nat) (c cnt stp N : Nat) (h : Zh), zK g = zK h → zL g = zL h → zK h r0 = 5 → zR h r0 0 = some rw → zK h rw = 100 → zL h rw = 5 → zK h out = 100 → zL h out = L → p.length < k → (∀ i, i < p.length → zI h rw i = iI (pw p i) ∧ pw p i < n) → zI h rw p.length = iI ((c : Int) - 1) → c ≤ n → stp + f < 1000000 → f < N → dchk n k rs H f p c cnt = true → ∃ a b d h', lp (fun q : Int32 × Int32 × Int32 × Zh => bX5_list_16 g r0 (iI n) (iI k) (iI (bI rs)) out q.1 q.2.1 q.2.2.1 q.2.2.2) N (iI cnt, iI p.length, iI stp, h) = some (1, (a, b, d, h')) ∧ Fm [rw, out] h h' ∧ (∀ j, j < cnt → zI h' out j = zI h out j) ∧ ∀ j e, (drun n k rs f p c)[j]? = some e → zI h' out (cnt + j) = iI (pkf (pw e) 0 k) := by
  intro f
  induction f with
  | zero => intro p c cnt stp N h _ _ _ _ _ _ _ _ _ _ _ _ _ _ q; cases q
  | succ f ih =>
    intro p c cnt stp N h hg1 hg2 k1 k2 k3 k4 o1 o2 hp hpn hc hcn hstp hN q
    obtain ⟨N, rfl⟩ : ∃ M, N = M + 1 := ⟨N - 1, by omega⟩
    have hlen := dchk_ok _ _ _ _ q
    by_cases hcnt : cnt < L
    · have hst := list_step (rs := rs) hg1 hg2 k1 k2 k3 k4 o1 o2 hro hL hk hn hp hpn hc hcn hcnt (show stp < 1000000 by omega)
      rw [dchk_s] at q
      rw [drun_s] at *
      have hx := nxt_le rs p n c
      by_cases c1 : n ≤ nxt rs p n c
      · rw [if_pos c1] at q hst ⊢
        cases p with
        | nil =>
          obtain ⟨N, rfl⟩ : ∃ M, N = M + 1 := ⟨N - 1, by omega⟩
          refine ⟨iI cnt, iI (-1), iI ((stp + 1 : Nat) : Int), zsI h rw 0 (iI (nxt rs [] n c)), (lp_0 hst).trans (lp_e ?_), Fm_sI _ _ _ (by simp), fun j hj => ?_, fun j e he => by simp at he⟩
          · show bX5_list_16 g r0 (iI n) (iI k) (iI (bI rs)) out (iI cnt) (iI (((0 : Nat) : Int) - 1)) (iI ((stp + 1 : Nat) : Int)) _ = _
            unfold bX5_list_16
            rw [show (((0 : Nat) : Int) - 1) = -1 by omega]
            simp (maxSteps := 1000000) (disch := (first | assumption | exact ne_b rfl | omega)) only [↓reduceIte, ↓zlet_eq, ↓bdR_sI, ↓bdR_sJ, ↓bdR_aI, zc2_some, Option.bind_some, ↓si_m1, ↓si_m2, ↓si_m3, iI_lit, iI_add, iI_sub, iI_mul, leT, leF, ltT, ltF, eqT, eqF, zinT, clI, Int.toNat_natCast, tN1, tNa, tN0, tNm, if_pos, if_neg, zI_sI, zI_sJ, zI_sR, zJ_sI, zJ_sJ, zJ_sR, zR_sI, zR_sJ, zR_sR, zK_sI, zK_sJ, zK_sR, zL_sI, zL_sJ, zL_sR, zI_aI, zJ_aI, zR_aI, zK_aI, zL_aI, z2_at, z2_a, z2_k, z1_self, z1_ne, true_and, and_true, bIt, bIf, Bool.false_eq_true, Bool.true_eq_false, eq_self, not_true_eq_false, not_false_eq_true]
            rfl
          · rw [zI_sI, z2_a _ _ _ _ hro]
        | cons y p =>
          have hp2 : p.length + 1 < k := by simpa using hp
          have hpn2 : ∀ i, i < p.length → zI h rw i = iI (pw p i) ∧ pw p i < n := fun i hi => by
            have := hpn i (by simp; omega)
            rw [pw_low _ _ hi] at this
            exact this
          have hy := hpn p.length (by simp)
          rw [pw_top] at hy
          obtain ⟨a, b, d, h', r1, r2, r3, r4⟩ := ih p (y + 1) cnt (stp + 1) N (zsI h rw (p.length + 1) (iI (nxt rs (y :: p) n c))) hg1 hg2 k1 k2 k3 k4 o1 o2 (by omega) (fun i hi => ⟨by simp (maxSteps := 1000000) (disch := (first | assumption | exact ne_b rfl | omega)) only [↓reduceIte, ↓zlet_eq, ↓bdR_sI, ↓bdR_sJ, ↓bdR_aI, zc2_some, Option.bind_some, ↓si_m1, ↓si_m2, ↓si_m3, iI_lit, iI_add, iI_sub, iI_mul, leT, leF, ltT, ltF, eqT, eqF, zinT, clI, Int.toNat_natCast, tN1, tNa, tN0, tNm, if_pos, if_neg, zI_sI, zI_sJ, zI_sR, zJ_sI, zJ_sJ, zJ_sR, zR_sI, zR_sJ, zR_sR, zK_sI, zK_sJ, zK_sR, zL_sI, zL_sJ, zL_sR, zI_aI, zJ_aI, zR_aI, zK_aI, zL_aI, z2_at, z2_a, z2_k, z1_self, z1_ne, true_and, and_true, bIt, bIf, Bool.false_eq_true, Bool.true_eq_false, eq_self, not_true_eq_false, not_false_eq_true, (hpn2 i hi).1], (hpn2 i hi).2⟩) (by simp (maxSteps := 1000000) (disch := (first | assumption | exact ne_b rfl | omega)) only [↓reduceIte, ↓zlet_eq, ↓bdR_sI, ↓bdR_sJ, ↓bdR_aI, zc2_some, Option.bind_some, ↓si_m1, ↓si_m2, ↓si_m3, iI_lit, iI_add, iI_sub, iI_mul, leT, leF, ltT, ltF, eqT, eqF, zinT, clI, Int.toNat_natCast, tN1, tNa, tN0, tNm, if_pos, if_neg, zI_sI, zI_sJ, zI_sR, zJ_sI, zJ_sJ, zJ_sR, zR_sI, zR_sJ, zR_sR, zK_sI, zK_sJ, zK_sR, zL_sI, zL_sJ, zL_sR, zI_aI, zJ_aI, zR_aI, zK_aI, zL_aI, z2_at, z2_a, z2_k, z1_self, z1_ne, true_and, and_true, bIt, bIf, Bool.false_eq_true, Bool.true_eq_false, eq_self, not_true_eq_false, not_false_eq_true, hy.1]) (by omega) (by omega) (by omega) q
          have e5 : iI (((y :: p).length : Int) - 1) = iI (p.length : Int) := by
            rw [List.length_cons]; congr 1; omega
          rw [e5] at hst
          refine ⟨a, b, d, h', (lp_0 hst).trans r1, (Fm_sI _ _ _ (by simp)).tr r2, fun j hj => ?_, r4⟩
          rw [r3 j hj, zI_sI, z2_a _ _ _ _ hro]
      · rw [if_neg c1] at q hst ⊢
        by_cases c2 : p.length + 1 = k
        · rw [if_pos c2] at q hst ⊢
          rw [Bool.and_eq_true] at q
          obtain ⟨a, b, d, h', r1, r2, r3, r4⟩ := ih p (nxt rs p n c + 1) (cnt + 1) (stp + 1) N (zsI (zsI h rw p.length (iI (nxt rs p n c))) out cnt (iI (pkf (pw (nxt rs p n c :: p)) 0 k))) hg1 hg2 k1 k2 k3 k4 o1 o2 hp (fun i hi => ⟨by simp (maxSteps := 1000000) (disch := (first | assumption | exact ne_b rfl | omega)) only [↓reduceIte, ↓zlet_eq, ↓bdR_sI, ↓bdR_sJ, ↓bdR_aI, zc2_some, Option.bind_some, ↓si_m1, ↓si_m2, ↓si_m3, iI_lit, iI_add, iI_sub, iI_mul, leT, leF, ltT, ltF, eqT, eqF, zinT, clI, Int.toNat_natCast, tN1, tNa, tN0, tNm, if_pos, if_neg, zI_sI, zI_sJ, zI_sR, zJ_sI, zJ_sJ, zJ_sR, zR_sI, zR_sJ, zR_sR, zK_sI, zK_sJ, zK_sR, zL_sI, zL_sJ, zL_sR, zI_aI, zJ_aI, zR_aI, zK_aI, zL_aI, z2_at, z2_a, z2_k, z1_self, z1_ne, true_and, and_true, bIt, bIf, Bool.false_eq_true, Bool.true_eq_false, eq_self, not_true_eq_false, not_false_eq_true, (hpn i hi).1], (hpn i hi).2⟩) (by simp (maxSteps := 1000000) (disch := (first | assumption | exact ne_b rfl | omega)) only [↓reduceIte, ↓zlet_eq, ↓bdR_sI, ↓bdR_sJ, ↓bdR_aI, zc2_some, Option.bind_some, ↓si_m1, ↓si_m2, ↓si_m3, iI_lit, iI_add, iI_sub, iI_mul, leT, leF, ltT, ltF, eqT, eqF, zinT, clI, Int.toNat_natCast, tN1, tNa, tN0, tNm, if_pos, if_neg, zI_sI, zI_sJ, zI_sR, zJ_sI, zJ_sJ, zJ_sR, zR_sI, zR_sJ, zR_sR, zK_sI, zK_sJ, zK_sR, zL_sI, zL_sJ, zL_sR, zI_aI, zJ_aI, zR_aI, zK_aI, zL_aI, z2_at, z2_a, z2_k, z1_self, z1_ne, true_and, and_true, bIt, bIf, Bool.false_eq_true, Bool.true_eq_false, eq_self, not_true_eq_false, not_false_eq_true]) (by omega) (by omega) (by omega) q.2
          refine ⟨a, b, d, h', (lp_0 hst).trans r1, ((Fm_sI _ _ _ (by simp)).tr (Fm_sI _ _ _ (by simp))).tr r2, fun j hj => ?_, fun j e he => ?_⟩
          · rw [r3 j (by omega), zI_sI, z2_k _ _ _ (by omega), zI_sI, z2_a _ _ _ _ hro]
          · cases j with
            | zero =>
              have : nxt rs p n c :: p = e := by simpa using he
              rw [← this, Nat.add_zero, r3 cnt (by omega), zI_sI, z2_at]
            | succ j =>
              rw [List.getElem?_cons_succ] at he
              have := r4 j e he
              rw [show cnt + (j + 1) = cnt + 1 + j by omega]
              exact this
        · rw [if_neg c2] at q hst ⊢
          have hcc : ((if rs then nxt rs p n c + 1 else 0 : Nat) : Int) - 1 = if rs then (nxt rs p n c : Int) else -1 := by
            cases rs <;> simp
          obtain ⟨a, b, d, h', r1, r2, r3, r4⟩ := ih (nxt rs p n c :: p) (if rs then nxt rs p n c + 1 else 0) cnt (stp + 1) N (zsI (zsI h rw p.length (iI (nxt rs p n c))) rw (p.length + 1) (if rs then iI (nxt rs p n c) else iI (-1))) hg1 hg2 k1 k2 k3 k4 o1 o2 (by simp; omega) (fun i hi => by
            have hi2 : i < p.length + 1 := by simpa using hi
            by_cases c4 : i = p.length
            · subst c4
              rw [pw_top]
              exact ⟨by simp (maxSteps := 1000000) (disch := (first | assumption | exact ne_b rfl | omega)) only [↓reduceIte, ↓zlet_eq, ↓bdR_sI, ↓bdR_sJ, ↓bdR_aI, zc2_some, Option.bind_some, ↓si_m1, ↓si_m2, ↓si_m3, iI_lit, iI_add, iI_sub, iI_mul, leT, leF, ltT, ltF, eqT, eqF, zinT, clI, Int.toNat_natCast, tN1, tNa, tN0, tNm, if_pos, if_neg, zI_sI, zI_sJ, zI_sR, zJ_sI, zJ_sJ, zJ_sR, zR_sI, zR_sJ, zR_sR, zK_sI, zK_sJ, zK_sR, zL_sI, zL_sJ, zL_sR, zI_aI, zJ_aI, zR_aI, zK_aI, zL_aI, z2_at, z2_a, z2_k, z1_self, z1_ne, true_and, and_true, bIt, bIf, Bool.false_eq_true, Bool.true_eq_false, eq_self, not_true_eq_false, not_false_eq_true], by omega⟩
            · rw [pw_low _ _ (by omega)]
              exact ⟨by simp (maxSteps := 1000000) (disch := (first | assumption | exact ne_b rfl | omega)) only [↓reduceIte, ↓zlet_eq, ↓bdR_sI, ↓bdR_sJ, ↓bdR_aI, zc2_some, Option.bind_some, ↓si_m1, ↓si_m2, ↓si_m3, iI_lit, iI_add, iI_sub, iI_mul, leT, leF, ltT, ltF, eqT, eqF, zinT, clI, Int.toNat_natCast, tN1, tNa, tN0, tNm, if_pos, if_neg, zI_sI, zI_sJ, zI_sR, zJ_sI, zJ_sJ, zJ_sR, zR_sI, zR_sJ, zR_sR, zK_sI, zK_sJ, zK_sR, zL_sI, zL_sJ, zL_sR, zI_aI, zJ_aI, zR_aI, zK_aI, zL_aI, z2_at, z2_a, z2_k, z1_self, z1_ne, true_and, and_true, bIt, bIf, Bool.false_eq_true, Bool.true_eq_false, eq_self, not_true_eq_false, not_false_eq_true, (hpn i (by omega)).1], (hpn i (by omega)).2⟩) (by
            rw [List.length_cons, zI_sI, z2_at, hcc]
            cases rs <;> rfl) (by split <;> omega) (by omega) (by omega) q
          rw [List.length_cons] at r1
          refine ⟨a, b, d, h', (lp_0 hst).trans r1, ((Fm_sI _ _ _ (by simp)).tr (Fm_sI _ _ _ (by simp))).tr r2, fun j hj => ?_, r4⟩
          rw [r3 j (by omega), zI_sI, z2_a _ _ _ _ hro, zI_sI, z2_a _ _ _ _ hro]
    · have hl0 : (drun n k rs (f + 1) p c).length = 0 := by have := hlen.1; omega
      refine ⟨iI cnt, iI p.length, iI stp, h, lp_e ?_, Fm.rf, fun j hj => rfl, fun j e he => ?_⟩
      · show bX5_list_16 g r0 (iI n) (iI k) (iI (bI rs)) out (iI cnt) (iI p.length) (iI stp) h = _
        unfold bX5_list_16
        have hcL : (L : Int) ≤ cnt := by omega
        have hcH : cnt ≤ H := by have := hlen.1; omega
        simp (maxSteps := 1000000) (disch := (first | assumption | exact ne_b rfl | omega)) only [↓reduceIte, ↓zlet_eq, ↓bdR_sI, ↓bdR_sJ, ↓bdR_aI, zc2_some, Option.bind_some, ↓si_m1, ↓si_m2, ↓si_m3, iI_lit, iI_add, iI_sub, iI_mul, leT, leF, ltT, ltF, eqT, eqF, zinT, clI, Int.toNat_natCast, tN1, tNa, tN0, tNm, if_pos, if_neg, zI_sI, zI_sJ, zI_sR, zJ_sI, zJ_sJ, zJ_sR, zR_sI, zR_sJ, zR_sR, zK_sI, zK_sJ, zK_sR, zL_sI, zL_sJ, zL_sR, zI_aI, zJ_aI, zR_aI, zK_aI, zL_aI, z2_at, z2_a, z2_k, z1_self, z1_ne, true_and, and_true, bIt, bIf, Bool.false_eq_true, Bool.true_eq_false, eq_self, not_true_eq_false, not_false_eq_true, hg1, hg2, o1, o2, si_ofN]
      · rw [List.getElem?_eq_none (by omega)] at he
        cases he
/-- the hands, or the places, in their order -/
noncomputable def dls (n k : Nat) (rs : Bool) : List (List Nat) := drun n k rs dF [] 0
noncomputable def hcd (n k : Nat) (rs : Bool) (h i : Nat) : Nat := pw ((dls n k rs).getD h []) i
theorem dls_ok {n k : Nat} {rs : Bool} (hn : n ≤ 12) (hk1 : 1 ≤ k) (hk : k ≤ 5) (hkn : k ≤ n) (hH : hnd n k rs ≤ 2000) : dchk n k rs (hnd n k rs) dF [] 0 0 = true := by
  cases rs
  · exact deal_kf n (by omega) k (by omega) hk1 hkn hH
  · exact deal_kt n (by omega) k (by omega) hk1 hkn
theorem dls_len {n k : Nat} {rs : Bool} (hn : n ≤ 12) (hk1 : 1 ≤ k) (hk : k ≤ 5) (hkn : k ≤ n) (hH : hnd n k rs ≤ 2000) : (dls n k rs).length = hnd n k rs := by
  have := (dchk_ok _ _ _ _ (dls_ok hn hk1 hk hkn hH)).1
  unfold dls
  omega
theorem hcd_at {n k : Nat} {rs : Bool} (hn : n ≤ 12) (hk1 : 1 ≤ k) (hk : k ≤ 5) (hkn : k ≤ n) (hH : hnd n k rs ≤ 2000) {h : Nat} (hh : h < hnd n k rs) : ∃ e, (dls n k rs)[h]? = some e ∧ (∀ i, hcd n k rs h i = pw e i) ∧ okP n k rs h e := by
  have hl := dls_len hn hk1 hk hkn hH
  refine ⟨(dls n k rs)[h], List.getElem?_eq_getElem (by omega), fun i => ?_, ?_⟩
  · unfold hcd
    rw [List.getD_eq_getElem?_getD, List.getElem?_eq_getElem (by omega), Option.getD_some]
  · have := (dchk_ok _ _ _ _ (dls_ok hn hk1 hk hkn hH)).2 h _ (List.getElem?_eq_getElem (by unfold dls at hl; omega))
    rw [Nat.zero_add] at this
    exact this
theorem fX5_list_eq {r0 rw out n k L : Nat} {rs : Bool} {h : Zh} (k1 : zK h r0 = 5) (k2 : zR h r0 0 = some rw) (k3 : zK h rw = 100) (k4 : zL h rw = 5) (o1 : zK h out = 100) (o2 : zL h out = L) (hro : out ≠ rw) (hL : L < 2147483648) (hn : n ≤ 12) (hk1 : 1 ≤ k) (hk : k ≤ 5) (hkn : k ≤ n) (hH : hnd n k rs ≤ 2000) (hHL : hnd n k rs ≤ L) : ∃ h', fX5_list r0 (iI n) (iI k) (iI (bI rs)) out h = some h' ∧ Fm [rw, out] h h' ∧ ∀ j, j < hnd n k rs → zI h' out j = iI (pkf (hcd n k rs j) 0 k) := by
  obtain ⟨a, b, d, h', r1, r2, r3, r4⟩ := list_run (r0 := r0) (rw := rw) (out := out) (rs := rs) hro hL hk hk1 hn hHL h dF [] 0 0 0 zB (zsI h rw 0 (iI (-1))) rfl rfl k1 k2 k3 k4 o1 o2 (by simp; omega) (fun i hi => by simp at hi) (by rw [zI_sI]; exact z2_at _ _ _ _) (by omega) (by decide) (by decide) (dls_ok hn hk1 hk hkn hH)
  refine ⟨h', ?_, (Fm_sI _ _ _ (by simp)).tr r2, fun j hj => ?_⟩
  · unfold fX5_list
    simp (maxSteps := 1000000) (disch := (first | assumption | exact ne_b rfl | omega)) only [↓reduceIte, ↓zlet_eq, ↓bdR_sI, ↓bdR_sJ, ↓bdR_aI, zc2_some, Option.bind_some, ↓si_m1, ↓si_m2, ↓si_m3, iI_lit, iI_add, iI_sub, iI_mul, leT, leF, ltT, ltF, eqT, eqF, zinT, clI, Int.toNat_natCast, tN1, tNa, tN0, tNm, if_pos, if_neg, zI_sI, zI_sJ, zI_sR, zJ_sI, zJ_sJ, zJ_sR, zR_sI, zR_sJ, zR_sR, zK_sI, zK_sJ, zK_sR, zL_sI, zL_sJ, zL_sR, zI_aI, zJ_aI, zR_aI, zK_aI, zL_aI, z2_at, z2_a, z2_k, z1_self, z1_ne, true_and, and_true, bIt, bIf, Bool.false_eq_true, Bool.true_eq_false, eq_self, not_true_eq_false, not_false_eq_true, k1, k2, k3, k4, show (0 : Int).toNat = 0 from rfl]
    exact (lp_bd r1).trans rfl
  · obtain ⟨e, e1, e2, -⟩ := hcd_at hn hk1 hk hkn hH hj
    have := r4 j e e1
    rw [Nat.zero_add] at this
    rw [this]
    congr 3
    funext i
    exact (e2 i).symm
