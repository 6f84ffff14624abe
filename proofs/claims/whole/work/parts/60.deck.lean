/-! the class's deck: sorting, hands' numbers, what is kept -/
/-- rising -/
def ris (s : Nat → Nat) (a : Nat) : Prop := ∀ i j, i < j → j < a → s i < s j
theorem ris.dst {s : Nat → Nat} {a : Nat} (h : ris s a) : dst s a := fun i j h1 h2 => by have := h i j h1 h2; omega
theorem ris.le {s : Nat → Nat} {a b : Nat} (h : ris s a) (hb : b ≤ a) : ris s b := fun i j h1 h2 => h i j h1 (by omega)
theorem cntl_ris {s : Nat → Nat} {a : Nat} (h : ris s a) : ∀ b j, b ≤ a → j < a → cntl s (s j) b = if b ≤ j then b else j
  | 0, j, _, _ => by simp [cntl]
  | b + 1, j, hb, hj => by
    rw [cntl, cntl_ris h b j (by omega) hj]
    rcases Nat.lt_trichotomy b j with c | c | c
    · have := h b j c hj
      rw [if_pos this, if_pos (by omega), if_pos (by omega)]
    · subst c
      rw [if_neg (Nat.lt_irrefl _), if_pos (by omega), if_neg (by omega)]
      rfl
    · have := h j b c (by omega)
      rw [if_neg (by omega), if_neg (by omega), if_neg (by omega)]
      rfl
theorem bsum_inj {m x y : Nat} (hx : m.testBit x = true) (hy : m.testBit y = true) (e : bsum m x = bsum m y) : x = y := by
  have aux : ∀ x y, x < y → m.testBit x = true → bsum m x < bsum m y := by
    intro x y h hx
    have h1 := (bsum_le m (y - (x + 1)) (x + 1)).2
    rw [show x + 1 + (y - (x + 1)) = y by omega, bsum, if_pos hx] at h1
    omega
  rcases Nat.lt_trichotomy x y with c | c | c
  · have := aux x y c hx; omega
  · exact c
  · have := aux y x c hy; omega
theorem ris_uniq {s t : Nat → Nat} {a : Nat} (h1 : ris s a) (h2 : ris t a) (e : fmask s a = fmask t a) : ∀ i, i < a → s i = t i := by
  intro i hi
  have b1 := bsum_fmask (s i) a h1.dst
  have b2 := bsum_fmask (t i) a h2.dst
  rw [cntl_ris h1 a i (Nat.le_refl _) hi, if_neg (by omega)] at b1
  rw [cntl_ris h2 a i (Nat.le_refl _) hi, if_neg (by omega)] at b2
  have t1 := (fmask_bit s (s i) a).mpr ⟨i, hi, rfl⟩
  have t2 := (fmask_bit t (t i) a).mpr ⟨i, hi, rfl⟩
  rw [e] at t1 b1
  exact bsum_inj t1 t2 (by rw [b1, b2])
/-- a number put into a rising row at a place -/
def insA (s : Nat → Nat) (p c : Nat) (j : Nat) : Nat := if j < p then s j else if j = p then c else s (j - 1)
theorem fmask_congr {s t : Nat → Nat} : ∀ a, (∀ i, i < a → s i = t i) → fmask s a = fmask t a
  | 0, _ => rfl
  | a + 1, h => by rw [fmask, fmask, fmask_congr a (fun i hi => h i (by omega)), h a (by omega)]
theorem fmask_ext {s t : Nat → Nat} {a b : Nat} (h1 : ∀ i, i < a → ∃ j, j < b ∧ t j = s i) (h2 : ∀ j, j < b → ∃ i, i < a ∧ s i = t j) : fmask s a = fmask t b := by
  refine Nat.eq_of_testBit_eq fun x => ?_
  have : (fmask s a).testBit x = true ↔ (fmask t b).testBit x = true := by
    rw [fmask_bit, fmask_bit]
    constructor
    · rintro ⟨i, hi, e⟩
      obtain ⟨j, hj, e2⟩ := h1 i hi
      exact ⟨j, hj, e2.trans e⟩
    · rintro ⟨j, hj, e⟩
      obtain ⟨i, hi, e2⟩ := h2 j hj
      exact ⟨i, hi, e2.trans e⟩
  cases e1 : (fmask s a).testBit x <;> cases e2 : (fmask t b).testBit x <;> simp_all
theorem insA_ris {s : Nat → Nat} {p c a : Nat} (h : ris s a) (hp : p ≤ a) (h1 : ∀ j, j < p → s j < c) (h2 : ∀ j, p ≤ j → j < a → c < s j) : ris (insA s p c) (a + 1) := by
  intro i j hij hj
  unfold insA
  by_cases c1 : i < p
  · rw [if_pos c1]
    by_cases c2 : j < p
    · rw [if_pos c2]; exact h i j hij (by omega)
    · rw [if_neg c2]
      by_cases c3 : j = p
      · rw [if_pos c3]; exact h1 i c1
      · rw [if_neg c3]; exact h i (j - 1) (by omega) (by omega)
  · rw [if_neg c1, if_neg (show ¬ j < p by omega), if_neg (show ¬ j = p by omega)]
    by_cases c3 : i = p
    · rw [if_pos c3]; exact h2 _ (by omega) (by omega)
    · rw [if_neg c3]; exact h _ _ (by omega) (by omega)
theorem insA_mask {s : Nat → Nat} {p c a : Nat} (hp : p ≤ a) : fmask (insA s p c) (a + 1) = fmask s a ||| 2 ^ c := by
  have e : fmask s a ||| 2 ^ c = fmask (fun j => if j < a then s j else c) (a + 1) := by
    rw [fmask, if_neg (Nat.lt_irrefl _), fmask_congr (s := fun j => if j < a then s j else c) (t := s) a (fun i hi => if_pos hi)]
  rw [e]
  refine fmask_ext (fun i hi => ?_) (fun j hj => ?_)
  · unfold insA
    by_cases c1 : i < p
    · exact ⟨i, by omega, by rw [if_pos (by omega), if_pos c1]⟩
    · by_cases c2 : i = p
      · exact ⟨a, by omega, by rw [if_neg (by omega), if_neg c1, if_pos c2]⟩
      · exact ⟨i - 1, by omega, by rw [if_pos (by omega), if_neg c1, if_neg c2]⟩
  · unfold insA
    by_cases c1 : j < a
    · by_cases c2 : j < p
      · exact ⟨j, by omega, by rw [if_pos c2, if_pos c1]⟩
      · exact ⟨j + 1, by omega, by rw [if_neg (by omega), if_neg (by omega), if_pos c1]; rfl⟩
    · exact ⟨p, by omega, by rw [if_neg (by omega), if_pos rfl, if_neg c1]⟩
/-- where a number goes in -/
def insP (s : Nat → Nat) (c : Nat) : Nat → Nat
  | 0 => 0
  | a + 1 => if s a ≤ c then a + 1 else insP s c a
theorem insP_ok {s : Nat → Nat} {c : Nat} : ∀ a, insP s c a ≤ a ∧ (∀ j, insP s c a ≤ j → j < a → c < s j) ∧ (0 < insP s c a → s (insP s c a - 1) ≤ c)
  | 0 => ⟨Nat.le_refl _, fun j _ h => absurd h (Nat.not_lt_zero _), fun h => absurd h (Nat.lt_irrefl _)⟩
  | a + 1 => by
    obtain ⟨h1, h2, h3⟩ := insP_ok (s := s) (c := c) a
    rw [insP]
    by_cases e : s a ≤ c
    · rw [if_pos e]
      exact ⟨Nat.le_refl _, fun j a b => by omega, fun _ => e⟩
    · rw [if_neg e]
      refine ⟨by omega, fun j h4 h5 => ?_, h3⟩
      by_cases e2 : j = a
      · rw [e2]; omega
      · exact h2 j h4 (by omega)
/-- what insertion makes of the first ones -/
def srt (w : Nat → Nat) : Nat → Nat → Nat
  | 0 => w
  | a + 1 => insA (srt w a) (insP (srt w a) (w a) a) (w a)
theorem srt_ok {w : Nat → Nat} : ∀ a, dst w a → ris (srt w a) a ∧ fmask (srt w a) a = fmask w a
  | 0, _ => ⟨fun i j h1 h2 => by omega, rfl⟩
  | a + 1, h => by
    obtain ⟨h1, h2⟩ := srt_ok a (h.le (by omega))
    obtain ⟨p1, p2, p3⟩ := insP_ok (s := srt w a) (c := w a) a
    refine ⟨?_, ?_⟩
    · rw [srt]
      refine insA_ris h1 p1 (fun j hj => ?_) p2
      have hne : srt w a j ≠ w a := by
        intro e
        have t1 := (fmask_bit (srt w a) (w a) a).mpr ⟨j, by omega, e⟩
        rw [h2, fmask_off h] at t1
        cases t1
      have h4 := p3 (by omega)
      by_cases e : j = insP (srt w a) (w a) a - 1
      · rw [← e] at h4; omega
      · have := h1 j (insP (srt w a) (w a) a - 1) (by omega) (by omega)
        omega
    · rw [srt, insA_mask p1, h2, fmask]
theorem mem_mask {s w : Nat → Nat} {a b : Nat} (e : fmask s a = fmask w b) : ∀ i, i < a → ∃ j, j < b ∧ w j = s i := by
  intro i hi
  have := (fmask_bit s (s i) a).mpr ⟨i, hi, rfl⟩
  rw [e] at this
  exact (fmask_bit w (s i) b).mp this
theorem srt_lt {w : Nat → Nat} {a n : Nat} (h : dst w a) (hn : ∀ i, i < a → w i < n) : ∀ i, i < a → srt w a i < n := by
  intro i hi
  obtain ⟨j, hj, e⟩ := mem_mask (srt_ok a h).2 i hi
  rw [← e]
  exact hn j hj
theorem fX0_sort_eq {r a L : Nat} {w : Nat → Nat} {h : Zh} (k2 : zK h r = 100) (k3 : zL h r = L) (hL : L < 2147483648) (ha : 1 ≤ a) (haL : a ≤ L) (hw : ∀ i, i < a → zI h r i = iI (w i) ∧ w i < 2147483648) (hd : dst w a) : fX0_sort r (iI a) h = some (zaI h r (fun j => if j < a then iI (srt w a j) else zI h r j)) := by
  unfold fX0_sort
  simp (disch := (first | assumption | omega | decide)) only [zlet_eq, zc2_some, Option.bind_some, ↓si_m1, ↓si_m2, ↓si_m3, iI_lit, iI_add, iI_sub, iI_mul, si_le, si_lt, si_eq, si_zin, si_clamp, Int.toNat_natCast, if_pos, if_neg, zI_sI, zI_sJ, zI_sR, zJ_sI, zJ_sJ, zJ_sR, zR_sI, zR_sJ, zR_sR, zK_sI, zK_sJ, zK_sR, zL_sI, zL_sJ, zL_sR, zI_aI, zJ_aI, zR_aI, zK_aI, zL_aI, z2_at, z2_a, z2_k, z1_self, z1_ne, true_and, and_true]
  have sl : ∀ b, b ≤ a → ∀ i, i < b → srt w b i < 2147483648 := fun b hb => srt_lt (hd.le hb) (fun i hi => (hw i (by omega)).2)
  refine (lp_fb (st := fun t => ((iI ((t + 1 : Nat) : Int), zaI h r (fun j => if j < t + 1 then iI (srt w (t + 1) j) else zI h r j)) : Int32 × Zh)) (e := 0) (s' := (iI a, zaI h r (fun j => if j < a then iI (srt w a j) else zI h r j))) (a - 1) ?_ (by omega) ?_ ?_).trans rfl
  · have e : (fun j => if j < 0 + 1 then iI (srt w (0 + 1) j) else zI h r j) = zI h r := by
      funext j
      by_cases c : j < 0 + 1
      · have : j = 0 := by omega
        subst this
        rw [if_pos (by omega), (hw 0 (by omega)).1]
        rfl
      · rw [if_neg c]
    simp only [e, zaI_self]
    rfl
  · intro t ht
    show bX0_sort_2 h r (iI a) (iI ((t + 1 : Nat) : Int)) (zaI h r (fun j => if j < t + 1 then iI (srt w (t + 1) j) else zI h r j)) = _
    unfold bX0_sort_2
    have hw1 := (hw (t + 1) (by omega)).1
    have hw2 := (hw (t + 1) (by omega)).2
    simp (disch := (first | assumption | omega | decide)) only [zlet_eq, zc2_some, Option.bind_some, ↓si_m1, ↓si_m2, ↓si_m3, iI_lit, iI_add, iI_sub, iI_mul, si_le, si_lt, si_eq, si_zin, si_clamp, Int.toNat_natCast, if_pos, if_neg, zI_sI, zI_sJ, zI_sR, zJ_sI, zJ_sJ, zJ_sR, zR_sI, zR_sJ, zR_sR, zK_sI, zK_sJ, zK_sR, zL_sI, zL_sJ, zL_sR, zI_aI, zJ_aI, zR_aI, zK_aI, zL_aI, z2_at, z2_a, z2_k, z1_self, z1_ne, true_and, and_true, k2, k3, hw1, Nat.lt_irrefl]
    obtain ⟨p1, p2, p3⟩ := insP_ok (s := srt w (t + 1)) (c := w (t + 1)) (t + 1)
    refine (lp_fb (st := fun u => ((iI ((t + 1 - u : Nat) : Int), zaI h r (fun j => if j < t + 1 - u then iI (srt w (t + 1) j) else if j = t + 1 - u then (if u = 0 then iI (w (t + 1)) else iI (srt w (t + 1) j)) else if j < t + 2 then iI (srt w (t + 1) (j - 1)) else zI h r j)) : Int32 × Zh)) (e := 0) (s' := (iI (insP (srt w (t + 1)) (w (t + 1)) (t + 1)), zaI h r (fun j => if j < t + 1 - (t + 1 - insP (srt w (t + 1)) (w (t + 1)) (t + 1)) then iI (srt w (t + 1) j) else if j = t + 1 - (t + 1 - insP (srt w (t + 1)) (w (t + 1)) (t + 1)) then (if (t + 1 - insP (srt w (t + 1)) (w (t + 1)) (t + 1)) = 0 then iI (w (t + 1)) else iI (srt w (t + 1) j)) else if j < t + 2 then iI (srt w (t + 1) (j - 1)) else zI h r j))) (t + 1 - insP (srt w (t + 1)) (w (t + 1)) (t + 1)) ?_ (by omega) ?_ ?_).trans ?_
    · congr 2
      funext j
      by_cases c : j < t + 1
      · rw [if_pos c, if_pos (by omega)]
      · by_cases c2 : j = t + 1
        · rw [if_neg c, if_neg (by omega), if_pos (by omega), if_pos rfl, c2, hw1]
        · rw [if_neg c, if_neg (by omega), if_neg (by omega), if_neg (by omega)]
    · intro u hu
      have pu : t + 1 - u - 1 < t + 1 := by omega
      have q1 := p2 (t + 1 - u - 1) (by omega) pu
      have q2 := sl (t + 1) (by omega) (t + 1 - u - 1) pu
      show bX0_sort_14 h r (iI (w (t + 1))) (iI ((t + 1 - u : Nat) : Int)) (zaI h r _) = _
      unfold bX0_sort_14
      have e1 : ((t + 1 - u : Nat) : Int) - 1 = ((t + 1 - u - 1 : Nat) : Int) := by omega
      have e2 : (t + 1 - u - 1) < t + 1 - u := by omega
      simp (disch := (first | assumption | omega | decide)) only [zlet_eq, zc2_some, Option.bind_some, ↓si_m1, ↓si_m2, ↓si_m3, iI_lit, iI_add, iI_sub, iI_mul, si_le, si_lt, si_eq, si_zin, si_clamp, Int.toNat_natCast, if_pos, if_neg, zI_sI, zI_sJ, zI_sR, zJ_sI, zJ_sJ, zJ_sR, zR_sI, zR_sJ, zR_sR, zK_sI, zK_sJ, zK_sR, zL_sI, zL_sJ, zL_sR, zI_aI, zJ_aI, zR_aI, zK_aI, zL_aI, z2_at, z2_a, z2_k, z1_self, z1_ne, true_and, and_true, k3, e1, e2, zsI_aI]
      rw [show ((t + 1 - u : Nat) : Int) + -1 = ((t + 1 - (u + 1) : Nat) : Int) by omega]
      congr 4
      funext j
      unfold z1
      dsimp only
      ((repeat' split) <;> first | rfl | (exfalso; omega) | (congr 2; omega) | (congr 3; omega) | (congr 4; omega) | (congr 5; omega))
    · show bX0_sort_14 h r (iI (w (t + 1))) (iI ((t + 1 - (t + 1 - insP (srt w (t + 1)) (w (t + 1)) (t + 1)) : Nat) : Int)) (zaI h r _) = _
      rw [show t + 1 - (t + 1 - insP (srt w (t + 1)) (w (t + 1)) (t + 1)) = insP (srt w (t + 1)) (w (t + 1)) (t + 1) by omega]
      unfold bX0_sort_14
      by_cases c0 : insP (srt w (t + 1)) (w (t + 1)) (t + 1) = 0
      · rw [c0]
        simp (disch := (first | assumption | omega | decide)) only [zlet_eq, zc2_some, Option.bind_some, ↓si_m1, ↓si_m2, ↓si_m3, iI_lit, iI_add, iI_sub, iI_mul, si_le, si_lt, si_eq, si_zin, si_clamp, Int.toNat_natCast, if_pos, if_neg, zI_sI, zI_sJ, zI_sR, zJ_sI, zJ_sJ, zJ_sR, zR_sI, zR_sJ, zR_sR, zK_sI, zK_sJ, zK_sR, zL_sI, zL_sJ, zL_sR, zI_aI, zJ_aI, zR_aI, zK_aI, zL_aI, z2_at, z2_a, z2_k, z1_self, z1_ne, true_and, and_true]
      · have q1 := p3 (by omega)
        have q2 := sl (t + 1) (by omega) (insP (srt w (t + 1)) (w (t + 1)) (t + 1) - 1) (by omega)
        have e1 : (insP (srt w (t + 1)) (w (t + 1)) (t + 1) : Int) - 1 = ((insP (srt w (t + 1)) (w (t + 1)) (t + 1) - 1 : Nat) : Int) := by omega
        have e2 : insP (srt w (t + 1)) (w (t + 1)) (t + 1) - 1 < insP (srt w (t + 1)) (w (t + 1)) (t + 1) := by omega
        simp (disch := (first | assumption | omega | decide)) only [zlet_eq, zc2_some, Option.bind_some, ↓si_m1, ↓si_m2, ↓si_m3, iI_lit, iI_add, iI_sub, iI_mul, si_le, si_lt, si_eq, si_zin, si_clamp, Int.toNat_natCast, if_pos, if_neg, zI_sI, zI_sJ, zI_sR, zJ_sI, zJ_sJ, zJ_sR, zR_sI, zR_sJ, zR_sR, zK_sI, zK_sJ, zK_sR, zL_sI, zL_sJ, zL_sR, zI_aI, zJ_aI, zR_aI, zK_aI, zL_aI, z2_at, z2_a, z2_k, z1_self, z1_ne, true_and, and_true, k3, e1, e2]
    · show kX0_sort_14 h r (iI a) (iI ((t + 1 : Nat) : Int)) (iI (w (t + 1))) 1 (iI (insP (srt w (t + 1)) (w (t + 1)) (t + 1))) (zaI h r _) = _
      unfold kX0_sort_14
      simp (disch := (first | assumption | omega | decide)) only [zlet_eq, zc2_some, Option.bind_some, ↓si_m1, ↓si_m2, ↓si_m3, iI_lit, iI_add, iI_sub, iI_mul, si_le, si_lt, si_eq, si_zin, si_clamp, Int.toNat_natCast, if_pos, if_neg, zI_sI, zI_sJ, zI_sR, zJ_sI, zJ_sJ, zJ_sR, zR_sI, zR_sJ, zR_sR, zK_sI, zK_sJ, zK_sR, zL_sI, zL_sJ, zL_sR, zI_aI, zJ_aI, zR_aI, zK_aI, zL_aI, z2_at, z2_a, z2_k, z1_self, z1_ne, true_and, and_true, k3, zsI_aI]
      congr 4
      funext j
      have pe : t + 1 - (t + 1 - insP (srt w (t + 1)) (w (t + 1)) (t + 1)) = insP (srt w (t + 1)) (w (t + 1)) (t + 1) := by omega
      rw [pe]
      show z1 _ _ _ j = if j < t + 1 + 1 then iI ↑(insA (srt w (t + 1)) (insP (srt w (t + 1)) (w (t + 1)) (t + 1)) (w (t + 1)) j) else zI h r j
      unfold z1 insA
      dsimp only
      by_cases c1 : j = insP (srt w (t + 1)) (w (t + 1)) (t + 1)
      · rw [if_pos c1, if_pos (by omega), if_neg (by omega), if_pos c1]
      · rw [if_neg c1, if_neg c1, if_neg c1]
        by_cases c2 : j < insP (srt w (t + 1)) (w (t + 1)) (t + 1)
        · rw [if_pos c2, if_pos (by omega), if_pos c2]
        · rw [if_neg c2, if_neg c2]
  · show bX0_sort_2 h r (iI a) (iI ((a - 1 + 1 : Nat) : Int)) (zaI h r _) = _
    rw [show a - 1 + 1 = a by omega]
    unfold bX0_sort_2
    simp (disch := (first | assumption | omega | decide)) only [zlet_eq, zc2_some, Option.bind_some, ↓si_m1, ↓si_m2, ↓si_m3, iI_lit, iI_add, iI_sub, iI_mul, si_le, si_lt, si_eq, si_zin, si_clamp, Int.toNat_natCast, if_pos, if_neg, zI_sI, zI_sJ, zI_sR, zJ_sI, zJ_sJ, zJ_sR, zR_sI, zR_sJ, zR_sR, zK_sI, zK_sJ, zK_sR, zL_sI, zL_sJ, zL_sR, zI_aI, zJ_aI, zR_aI, zK_aI, zL_aI, z2_at, z2_a, z2_k, z1_self, z1_ne, true_and, and_true]
