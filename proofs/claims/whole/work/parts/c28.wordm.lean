/-! words as the model knows them: one number each -/
def enc (a : Nat → Int) : Nat → Int
  | 0 => 0
  | k + 1 => 32 * enc a k + (a k - 97 + 1)
theorem enc_b {a : Nat → Int} : ∀ k, (∀ i, i < k → 97 ≤ a i ∧ a i ≤ 122) → 0 ≤ enc a k ∧ enc a k < 32 ^ k
  | 0, _ => ⟨Int.le_refl _, show (0 : Int) < 32 ^ 0 by decide⟩
  | k + 1, h => by
    have ih := enc_b k (fun i hi => h i (by omega))
    have hk := h k (by omega)
    show 0 ≤ 32 * enc a k + (a k - 97 + 1) ∧ 32 * enc a k + (a k - 97 + 1) < 32 ^ (k + 1)
    rw [Int.pow_succ]
    omega
theorem enc_inj {a b : Nat → Int} : ∀ k m, (∀ i, i < k → 97 ≤ a i ∧ a i ≤ 122) → (∀ i, i < m → 97 ≤ b i ∧ b i ≤ 122) → enc a k = enc b m → k = m ∧ ∀ i, i < k → a i = b i
  | 0, 0, _, _, _ => ⟨rfl, fun i hi => by omega⟩
  | 0, m + 1, _, hb, e => by
    have h1 := enc_b m (fun i hi => hb i (by omega))
    have h2 := hb m (by omega)
    have e' : (0 : Int) = 32 * enc b m + (b m - 97 + 1) := e
    omega
  | k + 1, 0, ha, _, e => by
    have h1 := enc_b k (fun i hi => ha i (by omega))
    have h2 := ha k (by omega)
    have e' : 32 * enc a k + (a k - 97 + 1) = (0 : Int) := e
    omega
  | k + 1, m + 1, ha, hb, e => by
    have h2 := ha k (by omega)
    have h4 := hb m (by omega)
    have e' : 32 * enc a k + (a k - 97 + 1) = 32 * enc b m + (b m - 97 + 1) := e
    have e1 : enc a k = enc b m := by omega
    have e2 : a k = b m := by omega
    obtain ⟨r1, r2⟩ := enc_inj k m (fun i hi => ha i (by omega)) (fun i hi => hb i (by omega)) e1
    refine ⟨by omega, fun i hi => ?_⟩
    by_cases q : i = k
    · rw [q, e2, r1]
    · exact r2 i (by omega)
theorem enc_cg {a b : Nat → Int} : ∀ k, (∀ i, i < k → a i = b i) → enc a k = enc b k
  | 0, _ => rfl
  | k + 1, h => by
    show 32 * enc a k + (a k - 97 + 1) = 32 * enc b k + (b k - 97 + 1)
    rw [enc_cg k (fun i hi => h i (by omega)), h k (by omega)]
theorem wen_enc (tx : Nat → Int) (s : Nat) : ∀ k, wen tx s k = enc (fun i => tx (s + i)) k
  | 0 => rfl
  | k + 1 => by show 32 * wen tx s k + _ = 32 * enc _ k + _; rw [wen_enc tx s k]
theorem wordOf_m {h : Zh} {s : Nat} (hs : s < ztxt.length) (hl : wln s ≤ 8) : fX12_wordOf s h = some (jI (enc (wch s) (wln s)), h) := by
  have hlp : lp (fun q : Int64 × Int32 × Zh => bX12_wordOf_4 h s q.1 q.2.1 q.2.2) zB (jI 0, iI 0, h) = some (1, (jI (enc (wch s) (wln s)), iI (wln s), h)) := by
    refine lp_for0 (st := fun k => ((jI (enc (wch s) k), iI (k : Int), h) : Int64 × Int32 × Zh)) (wln s) rfl (by omega) (fun k hk => ?_) ?_
    · have e1 := jlen hs h
      have e2 := jchr hs hk hl h
      have hw := wk_ok s hs hl k hk
      have hlg : (iI (wch s k - 97 + 1)).toInt64 = jI (wch s k - 97 + 1) := iI_long ⟨by omega, by omega⟩
      have hj : (32 : Int64) * jI (enc (wch s) k) + jI (wch s k - 97 + 1) = jI (enc (wch s) (k + 1)) := by
        rw [show (32 : Int64) = jI 32 from rfl, jI_mul, jI_add]; rfl
      show bX12_wordOf_4 h s (jI (enc (wch s) k)) (iI k) h = _
      unfold bX12_wordOf_4
      simp (maxSteps := 1000000) (disch := (first | assumption | exact ne_b rfl | omega)) only [↓reduceIte, ↓zlet_eq, ↓bdR_sI, ↓bdR_sJ, ↓bdR_aI, zc2_some, Option.bind_some, ↓si_m1, ↓si_m2, ↓si_m3, iI_lit, iI_add, iI_sub, iI_mul, leT, leF, ltT, ltF, eqT, eqF, zinT, clI, Int.toNat_natCast, Int.reduceToNat, tN1, tNa, tN0, tNm, if_pos, if_neg, zI_sI, zI_sJ, zI_sR, zJ_sI, zJ_sJ, zJ_sR, zR_sI, zR_sJ, zR_sR, zK_sI, zK_sJ, zK_sR, zL_sI, zL_sJ, zL_sR, zI_aI, zJ_aI, zR_aI, zK_aI, zL_aI, z2_at, z2_a, z2_k, z1_self, z1_ne, true_and, and_true, bIt, bIf, Bool.false_eq_true, Bool.true_eq_false, eq_self, not_true_eq_false, not_false_eq_true, ↓zc_of e1, ↓zc_of e2, hlg, hj]
      all_goals rfl
    · have e1 := jlen hs h
      show bX12_wordOf_4 h s (jI (enc (wch s) (wln s))) (iI (wln s)) h = _
      unfold bX12_wordOf_4
      simp (maxSteps := 1000000) (disch := (first | assumption | exact ne_b rfl | omega)) only [↓reduceIte, ↓zlet_eq, ↓bdR_sI, ↓bdR_sJ, ↓bdR_aI, zc2_some, Option.bind_some, ↓si_m1, ↓si_m2, ↓si_m3, iI_lit, iI_add, iI_sub, iI_mul, leT, leF, ltT, ltF, eqT, eqF, zinT, clI, Int.toNat_natCast, Int.reduceToNat, tN1, tNa, tN0, tNm, if_pos, if_neg, zI_sI, zI_sJ, zI_sR, zJ_sI, zJ_sJ, zJ_sR, zR_sI, zR_sJ, zR_sR, zK_sI, zK_sJ, zK_sR, zL_sI, zL_sJ, zL_sR, zI_aI, zJ_aI, zR_aI, zK_aI, zL_aI, z2_at, z2_a, z2_k, z1_self, z1_ne, true_and, and_true, bIt, bIf, Bool.false_eq_true, Bool.true_eq_false, eq_self, not_true_eq_false, not_false_eq_true, ↓zc_of e1]
  unfold fX12_wordOf
  rw [zlet_eq]
  exact (lp_bd hlp)
theorem si_cmpe {a b : Int} (ha : jR a) (hb : jR b) : (lg_cmp (jI a) (jI b) = 0) ↔ a = b := by
  unfold lg_cmp
  by_cases c : b < a
  · rw [if_pos ((jI_lt hb ha).mpr c)]
    exact ⟨fun q => absurd q (by decide), fun q => by omega⟩
  · rw [if_neg (fun q => c ((jI_lt hb ha).mp q))]
    by_cases c2 : a = b
    · rw [if_pos (by rw [c2])]
      exact ⟨fun _ => c2, fun _ => rfl⟩
    · rw [if_neg (fun q => c2 ((jI_eq ha hb).mp q))]
      exact ⟨fun q => absurd q (by decide), fun q => absurd q c2⟩
/-- a word's letters -/
theorem wrd {tx : Nat → Int} {n p : Nat} (h : tkK tx n p = 1) : tkN tx n p - skp tx n p = rnl 97 122 tx n (skp tx n p) ∧ rnl 97 122 tx n (skp tx n p) ≤ 8 := by
  unfold tkK at h
  by_cases c0 : n ≤ skp tx n p
  · rw [if_pos c0] at h; omega
  · rw [if_neg c0] at h
    by_cases c1 : ltr (tx (skp tx n p)) = true
    · rw [if_pos c1] at h
      by_cases c2 : rnl 97 122 tx n (skp tx n p) ≤ 8
      · refine ⟨?_, c2⟩
        unfold tkN
        rw [if_neg c0, if_pos c1]
        omega
      · rw [if_neg c2] at h; omega
    · rw [if_neg c1] at h
      by_cases c2 : dgt0 (tx (skp tx n p)) = true
      · rw [if_pos c2] at h
        split at h <;> omega
      · rw [if_neg c2] at h
        split at h
        · omega
        · split at h <;> omega
theorem mS_2 (k : Nat) : mS k = 2 ↔ k = 1 := by
  unfold mS
  constructor
  · intro h
    by_cases c0 : k = 0
    · rw [if_pos c0] at h; omega
    · rw [if_neg c0] at h
      by_cases c1 : k = 1
      · exact c1
      · rw [if_neg c1] at h
        split at h
        · omega
        · split at h
          · omega
          · split at h <;> omega
  · intro h
    subst h
    rfl
theorem mS_b (k : Nat) : 0 ≤ mS k ∧ mS k < 5 := by
  unfold mS
  split
  · omega
  · split
    · omega
    · split
      · omega
      · split
        · omega
        · split <;> omega
theorem fX12_isWord_eq {h : Zh} {tx : Nat → Int} {n p s : Nat} (st : St h) (rd : RdM h tx n p) (hs : s < ztxt.length) (hl : wln s ≤ 8) : fX12_isWord 76 s h = some (iI (bI (isw tx n p s)), h) := by
  obtain ⟨hp, tm, r9, r10, r8, r15, -⟩ := rd
  have e1 := wordOf_m (h := h) hs hl
  have hb := mS_b (tkK tx n p)
  unfold isw fX12_isWord
  rw [zlet_eq, if_pos (sK76 st), r9]
  by_cases c1 : tkK tx n p = 1
  · rw [decide_eq_true c1, Bool.true_and, c1, if_pos (by decide)]
    refine (zc_of e1 _).trans ?_
    obtain ⟨w1, w2⟩ := wrd c1
    rw [r15 c1, w1, wen_enc]
    have ba : ∀ i, i < rnl 97 122 tx n (skp tx n p) → 97 ≤ tx (skp tx n p + i) ∧ tx (skp tx n p + i) ≤ 122 := fun i hi => (rnl_in hi).2
    have bb := wk_ok s hs hl
    have b1 := enc_b (a := fun i => tx (skp tx n p + i)) _ ba
    have b2 := enc_b (a := wch s) _ bb
    have p8 : ∀ k : Nat, k ≤ 8 → (32 : Int) ^ k ≤ 1099511627776 := by decide +kernel
    have q1 := p8 _ w2
    have q2 := p8 _ hl
    have hcm := si_cmpe (a := enc (fun i => tx (skp tx n p + i)) (rnl 97 122 tx n (skp tx n p))) (b := enc (wch s) (wln s)) ⟨by omega, by omega⟩ ⟨by omega, by omega⟩
    by_cases c2 : rnl 97 122 tx n (skp tx n p) = wln s ∧ ∀ i, i < wln s → tx (skp tx n p + i) = wch s i
    · rw [if_pos (hcm.mpr (by rw [c2.1]; exact enc_cg _ c2.2)), decide_eq_true c2.1, (alb_t _).mpr (fun i hi => decide_eq_true (c2.2 i hi))]
      rfl
    · have hne : ¬ lg_cmp (jI (enc (fun i => tx (skp tx n p + i)) (rnl 97 122 tx n (skp tx n p)))) (jI (enc (wch s) (wln s))) = 0 := fun z => by
        obtain ⟨x1, x2⟩ := enc_inj _ _ ba bb (hcm.mp z)
        exact c2 ⟨x1, fun i hi => x2 i (by omega)⟩
      rw [if_neg hne]
      have hf : (decide (rnl 97 122 tx n (skp tx n p) = wln s) && alb (fun i => decide (tx (skp tx n p + i) = wch s i)) (wln s)) = false := by
        refine Bool.eq_false_iff.mpr (fun z => ?_)
        rw [Bool.and_eq_true_iff] at z
        exact c2 ⟨of_decide_eq_true z.1, fun i hi => of_decide_eq_true ((alb_t _).mp z.2 i hi)⟩
      rw [hf]
      rfl
  · rw [decide_eq_false c1, Bool.false_and, if_neg]
    · rfl
    · rw [show (2 : Int32) = iI 2 from rfl, iI_eq ⟨by omega, by omega⟩ ⟨by decide, by decide⟩]
      exact fun z => c1 ((mS_2 _).mp z)
