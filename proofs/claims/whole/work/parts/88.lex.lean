/-! hands, places and rows come in order -/
theorem cntl_congr {w v : Nat → Nat} {c : Nat} : ∀ a, (∀ i, i < a → w i = v i) → cntl w c a = cntl v c a
  | 0, _ => rfl
  | a + 1, h => by rw [cntl, cntl, cntl_congr a (fun i hi => h i (by omega)), h a (by omega)]
theorem rowN_lex {n : Nat} {w v : Nat → Nat} {a j : Nat} (hw : dst w a) (hwn : ∀ i, i < a → w i < n) (hv : dst v a) (hvn : ∀ i, i < a → v i < n) (hj : j < a) (he : ∀ i, i < j → w i = v i) (hl : w j < v j) : rowN n w a < rowN n v a := by
  have base : rowN n w (j + 1) < rowN n v (j + 1) := by
    rw [rowN, rowN, rowN_congr j he]
    have : dg w j < dg v j := by
      have h1 := bsum_fmask (w j) j (hw.le (show j ≤ a by omega))
      have h2 := bsum_fmask (v j) j (hv.le (show j ≤ a by omega))
      have hm : fmask w j = fmask v j := fmask_congr j he
      rw [hm] at h1
      have hoff : (fmask v j).testBit (w j) = false := by
        rw [← hm]
        exact fmask_off (hw.le (by omega))
      have h3 : bsum (fmask v j) (w j + 1) = bsum (fmask v j) (w j) := by rw [bsum, hoff]; simp
      have h4 := (bsum_le (fmask v j) (v j - (w j + 1)) (w j + 1)).1
      rw [show w j + 1 + (v j - (w j + 1)) = v j by omega] at h4
      have h5 := bsum_c (fmask v j) (w j)
      unfold dg
      omega
    omega
  have step : ∀ d, j + 1 + d ≤ a → rowN n w (j + 1 + d) < rowN n v (j + 1 + d) := by
    intro d
    induction d with
    | zero => intro _; exact base
    | succ d ih =>
      intro h
      have ih := ih (by omega)
      rw [show j + 1 + (d + 1) = (j + 1 + d) + 1 by omega, rowN, rowN]
      have h1 := dg_lt (w := w) (n := n) (i := j + 1 + d) (hw.le (by omega)) (fun i hi => hwn i (by omega))
      have h2 : (rowN n w (j + 1 + d) + 1) * (n - (j + 1 + d)) ≤ rowN n v (j + 1 + d) * (n - (j + 1 + d)) := Nat.mul_le_mul_right _ ih
      rw [Nat.add_mul, Nat.one_mul] at h2
      omega
  have := step (a - (j + 1)) (by omega)
  rw [show j + 1 + (a - (j + 1)) = a by omega] at this
  exact this
def lxl (k : Nat) (e f : List Nat) : Prop := ∃ d, d < k ∧ (∀ i, i < d → pw e i = pw f i) ∧ pw e d < pw f d
theorem nxt_ge {rs : Bool} {p : List Nat} {n c : Nat} (h : nxt rs p n c < n) : c ≤ nxt rs p n c := by
  by_cases q : c ≤ n
  · exact folN_ge 20 c q
  · unfold nxt at h
    rw [folN, if_pos (by omega)] at h
    omega
theorem drun_in {n k : Nat} {rs : Bool} {H : Nat} : ∀ (f : Nat) (p : List Nat) (c h : Nat), dchk n k rs H f p c h = true → p.length < k → ∀ e, e ∈ drun n k rs f p c → ahead e p c := by
  intro f
  induction f with
  | zero => intro p c h q; cases q
  | succ f ih =>
    intro p c h q hp e he
    rw [dchk_s] at q
    rw [drun_s] at he
    by_cases c1 : n ≤ nxt rs p n c
    · rw [if_pos c1] at q he
      cases p with
      | nil => cases he
      | cons y p =>
        simp only [List.length_cons] at hp
        obtain ⟨i, h1, h2, h3, h4⟩ := ih p (y + 1) h q (by omega) e he
        refine ⟨i, by simp; omega, fun j hj => by rw [h2 j hj, pw_low _ _ (by omega)], fun ei => by simp at ei; omega, fun _ => ?_⟩
        by_cases c2 : i = p.length
        · have := h3 c2
          rw [c2, pw_top]
          rw [c2] at this
          omega
        · rw [pw_low _ _ (by omega)]
          exact h4 (by omega)
    · rw [if_neg c1] at q he
      have hge := nxt_ge (rs := rs) (p := p) (n := n) (c := c) (by omega)
      by_cases c2 : p.length + 1 = k
      · rw [if_pos c2] at q he
        rw [Bool.and_eq_true] at q
        rcases List.mem_cons.mp he with e1 | e1
        · rw [e1]
          exact ⟨p.length, Nat.le_refl _, fun j hj => pw_low _ _ hj, fun _ => by rw [pw_top]; exact hge, fun hh => absurd hh (Nat.lt_irrefl _)⟩
        · obtain ⟨i, h1, h2, h3, h4⟩ := ih _ _ _ q.2 hp e e1
          exact ⟨i, h1, h2, fun ei => by have := h3 ei; omega, h4⟩
      · rw [if_neg c2] at q he
        obtain ⟨i, h1, h2, h3, h4⟩ := ih _ _ _ q (by simp; omega) e he
        simp only [List.length_cons] at h1 h3 h4
        by_cases c3 : i < p.length
        · refine ⟨i, by omega, fun j hj => by rw [h2 j hj, pw_low _ _ (by omega)], fun ei => by omega, fun _ => ?_⟩
          have := h4 (by omega)
          rw [pw_low _ _ c3] at this
          exact this
        · by_cases c4 : i = p.length
          · refine ⟨p.length, Nat.le_refl _, fun j hj => by rw [h2 j (by omega), pw_low _ _ hj], fun _ => ?_, fun hh => absurd hh (Nat.lt_irrefl _)⟩
            have := h4 (by omega)
            rw [c4, pw_top] at this
            omega
          · refine ⟨p.length, Nat.le_refl _, fun j hj => by rw [h2 j (by omega), pw_low _ _ hj], fun _ => ?_, fun hh => absurd hh (Nat.lt_irrefl _)⟩
            rw [h2 p.length (by omega), pw_top]
            exact hge
theorem drun_lex {n k : Nat} {rs : Bool} {H : Nat} : ∀ (f : Nat) (p : List Nat) (c h : Nat), dchk n k rs H f p c h = true → p.length < k → ∀ (a b : Nat) (e e2 : List Nat), a < b → (drun n k rs f p c)[a]? = some e → (drun n k rs f p c)[b]? = some e2 → lxl k e e2 := by
  intro f
  induction f with
  | zero => intro p c h q; cases q
  | succ f ih =>
    intro p c h q hp a b e e2 hab ha hb
    rw [dchk_s] at q
    rw [drun_s] at ha hb
    by_cases c1 : n ≤ nxt rs p n c
    · rw [if_pos c1] at q ha hb
      cases p with
      | nil => simp at ha
      | cons y p =>
        simp only [List.length_cons] at hp
        exact ih p (y + 1) h q (by omega) a b e e2 hab ha hb
    · rw [if_neg c1] at q ha hb
      by_cases c2 : p.length + 1 = k
      · rw [if_pos c2] at q ha hb
        rw [Bool.and_eq_true] at q
        obtain ⟨b, rfl⟩ : ∃ m, b = m + 1 := ⟨b - 1, by omega⟩
        rw [List.getElem?_cons_succ] at hb
        cases a with
        | zero =>
          have e1 : nxt rs p n c :: p = e := by simpa using ha
          rw [← e1]
          obtain ⟨i, h1, h2, h3, h4⟩ := drun_in _ _ _ _ q.2 hp e2 (List.mem_of_getElem? hb)
          by_cases c3 : i = p.length
          · refine ⟨p.length, by omega, fun j hj => by rw [pw_low _ _ hj, h2 j (by omega)], ?_⟩
            have := h3 c3
            rw [pw_top, ← c3]
            omega
          · refine ⟨i, by omega, fun j hj => by rw [pw_low _ _ (by omega), h2 j hj], ?_⟩
            rw [pw_low _ _ (by omega)]
            exact h4 (by omega)
        | succ a =>
          rw [List.getElem?_cons_succ] at ha
          exact ih _ _ _ q.2 hp a b e e2 (by omega) ha hb
      · rw [if_neg c2] at q ha hb
        exact ih _ _ _ q (by simp; omega) a b e e2 hab ha hb
theorem hcd_lex {n k : Nat} {rs : Bool} (hn : n ≤ 12) (hk1 : 1 ≤ k) (hk : k ≤ 5) (hkn : k ≤ n) (hH : hnd n k rs ≤ 2000) {a b : Nat} (hab : a < b) (hb : b < hnd n k rs) : ∃ d, d < k ∧ (∀ i, i < d → hcd n k rs a i = hcd n k rs b i) ∧ hcd n k rs a d < hcd n k rs b d := by
  obtain ⟨e, e1, e2, -⟩ := hcd_at hn hk1 hk hkn hH (show a < hnd n k rs by omega)
  obtain ⟨f, f1, f2, -⟩ := hcd_at hn hk1 hk hkn hH hb
  obtain ⟨d, d1, d2, d3⟩ := drun_lex dF [] 0 0 (dls_ok hn hk1 hk hkn hH) (by simp; omega) a b e f hab e1 f1
  exact ⟨d, d1, fun i hi => by rw [e2, f2]; exact d2 i hi, by rw [e2, f2]; exact d3⟩
theorem plc_lex {t : Tk} (tok : Tok t) {a b : Nat} (hab : a < b) (hb : b < pcn t) : ∃ d, d < tsh t ∧ (∀ i, i < d → plc t a i = plc t b i) ∧ plc t a d < plc t b d := by
  obtain ⟨bn4, bn12, bu1, bu4, bnu, bk2, bk5, bkn, bp1, bp2, bpk, bH, bsp, bs1, bs4, bT1, bT16, bR1, bR2, bH1, bff, bff1⟩ := tok.b
  have := (pcn_b tok).2
  unfold pcn at this hb
  exact hcd_lex (by omega) (by omega) (by omega) (by omega) (by omega) hab hb
theorem crS_she {t : Tk} (tok : Tok t) (hst : tst t = false) {x a b : Nat} (hx : x < tH t) (hab : a < b) (hb : b < pcn t) : crS t x a < crS t x b := by
  obtain ⟨d, d1, d2, d3⟩ := plc_lex tok hab hb
  obtain ⟨w1, w2⟩ := pos_ok tok hx (plc_vld tok (show a < pcn t by omega))
  obtain ⟨v1, v2⟩ := pos_ok tok hx (plc_vld tok hb)
  have hv := hc_vld tok hx
  refine rowN_lex w1 w2 v1 v2 d1 (fun i hi => by rw [d2 i hi]) ?_
  have := hv.2 (plc t b d) ((plc_vld tok hb).1 d d1) (plc t a d) d3
  rw [hst] at this
  simpa using this
theorem rowN_inj {n : Nat} {w v : Nat → Nat} {a : Nat} (hw : dst w a) (hwn : ∀ i, i < a → w i < n) (hv : dst v a) (hvn : ∀ i, i < a → v i < n) (e : rowN n w a = rowN n v a) : ∀ i, i < a → w i = v i := by
  intro i hi
  rw [← unp_row hw hwn i hi, ← unp_row hv hvn i hi, e]
theorem crS_ne {t : Tk} (tok : Tok t) {x a b : Nat} (hx : x < tH t) (hab : a < b) (hb : b < pcn t) : crS t x a ≠ crS t x b := by
  obtain ⟨d, d1, d2, d3⟩ := plc_lex tok hab hb
  obtain ⟨w1, w2⟩ := pos_ok tok hx (plc_vld tok (show a < pcn t by omega))
  obtain ⟨v1, v2⟩ := pos_ok tok hx (plc_vld tok hb)
  intro e
  have := rowN_inj w1 w2 v1 v2 e d d1
  exact (hc_vld tok hx).dst _ _ d3 ((plc_vld tok hb).1 d d1) this
/-- the rows of a hand without tilts, rising -/
noncomputable def crC (t : Tk) (x i : Nat) : Nat := if tst t then srt (fun i => crS t x i + 1) (pcn t) i - 1 else crS t x i
theorem crC_st {t : Tk} (tok : Tok t) (hst : tst t = true) {x : Nat} (hx : x < tH t) : ris (srt (fun i => crS t x i + 1) (pcn t)) (pcn t) ∧ (∀ i, i < pcn t → srt (fun i => crS t x i + 1) (pcn t) i = crC t x i + 1) ∧ (∀ i, i < pcn t → ∃ j, j < pcn t ∧ crS t x j = crC t x i) ∧ ∀ j, j < pcn t → ∃ i, i < pcn t ∧ crC t x i = crS t x j := by
  have hd : dst (fun i => crS t x i + 1) (pcn t) := fun a b h1 h2 e => crS_ne tok hx h1 h2 (by simpa using e)
  obtain ⟨s1, s2⟩ := srt_ok (pcn t) hd
  have m1 := mem_mask s2
  have m2 := mem_mask s2.symm
  have hc1 : ∀ i, i < pcn t → srt (fun i => crS t x i + 1) (pcn t) i = crC t x i + 1 := fun i hi => by
    obtain ⟨j, j1, j2⟩ := m1 i hi
    unfold crC
    rw [hst, if_pos rfl]
    omega
  refine ⟨s1, hc1, fun i hi => ?_, fun j hj => ?_⟩
  · obtain ⟨j, j1, j2⟩ := m1 i hi
    rw [hc1 i hi] at j2
    exact ⟨j, j1, by omega⟩
  · obtain ⟨i, i1, i2⟩ := m2 j hj
    rw [hc1 i i1] at i2
    exact ⟨i, i1, by omega⟩
theorem crC_she {t : Tk} (hst : tst t = false) (x i : Nat) : crC t x i = crS t x i := by
  unfold crC
  rw [hst, if_neg (by decide)]
theorem crC_lt {t : Tk} (tok : Tok t) : ∀ x i, x < tH t → i < pcn t → crC t x i < ff (tn t) (tsh t) := by
  intro x i hx hi
  cases hst : tst t
  · rw [crC_she hst]; exact crS_lt tok hx hi
  · obtain ⟨j, j1, j2⟩ := (crC_st tok hst hx).2.2.1 i hi
    rw [← j2]; exact crS_lt tok hx j1
theorem crC_asc {t : Tk} (tok : Tok t) : ∀ x, x < tH t → ∀ i j, i < j → j < pcn t → crC t x i < crC t x j := by
  intro x hx i j hij hj
  cases hst : tst t
  · rw [crC_she hst, crC_she hst]; exact crS_she tok hst hx hij hj
  · obtain ⟨s1, s2, -⟩ := crC_st tok hst hx
    have := s1 i j hij hj
    rw [s2 i (by omega), s2 j hj] at this
    omega
theorem crC_fit {t : Tk} (tok : Tok t) {x : Nat} (hx : x < tH t) (r : Nat) : fcr t (crC t) x r ↔ fitP t x r := by
  have hS : (∃ i, i < pcn t ∧ crC t x i = r / tT t) ↔ ∃ i, i < pcn t ∧ crS t x i = r / tT t := by
    cases hst : tst t
    · simp only [crC_she hst]
    · obtain ⟨-, -, s3, s4⟩ := crC_st tok hst hx
      constructor
      · rintro ⟨i, i1, i2⟩
        obtain ⟨j, j1, j2⟩ := s3 i i1
        exact ⟨j, j1, by rw [j2, i2]⟩
      · rintro ⟨j, j1, j2⟩
        obtain ⟨i, i1, i2⟩ := s4 j j1
        exact ⟨i, i1, by rw [i2, j2]⟩
  unfold fcr
  rw [hS]
  constructor
  · rintro ⟨i, i1, i2⟩
    exact ⟨plc t i, plc_vld tok i1, i2.symm⟩
  · rintro ⟨p, p1, p2⟩
    obtain ⟨i, i1, i2⟩ := plc_ex tok p1
    refine ⟨i, i1, ?_⟩
    rw [p2]
    unfold crS
    exact rowN_congr _ (fun j hj => by rw [i2 j hj])
