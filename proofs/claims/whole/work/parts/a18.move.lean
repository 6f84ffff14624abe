/-! cards changed about carry hands to hands, and rows that fit them: how many can be paired -/
noncomputable def mvH (t : Tk) (s : Nat → Nat) (x : Nat) : Nat := hix t (fun i => s (hc t x i))
theorem mvH_d {t : Tk} (tok : Tok t) {s : Nat → Nat} (s1 : ∀ y, y < tn t → s y < tn t) (s2 : ∀ y z, y < tn t → z < tn t → s y = s z → y = z) {x : Nat} (hx : x < tH t) : (∀ i, i < tk t → (fun i => s (hc t x i)) i < tn t) ∧ dst (fun i => s (hc t x i)) (tk t) := by
  have hv := hc_vld tok hx
  refine ⟨fun i hi => s1 _ (hv.1 i hi), fun i j h1 h2 q => ?_⟩
  exact hv.dst i j h1 h2 (s2 _ _ (hv.1 i (by omega)) (hv.1 j h2) q)
theorem mvH_ok {t : Tk} (tok : Tok t) {s : Nat → Nat} (s1 : ∀ y, y < tn t → s y < tn t) (s2 : ∀ y z, y < tn t → z < tn t → s y = s z → y = z) {x : Nat} (hx : x < tH t) : mvH t s x < tH t ∧ (tst t = true → ∀ i, i < tk t → hc t (mvH t s x) i = s (hc t x i)) ∧ ∀ c, (∃ i, i < tk t ∧ hc t (mvH t s x) i = c) ↔ ∃ i, i < tk t ∧ s (hc t x i) = c := by
  obtain ⟨d1, d2⟩ := mvH_d tok s1 s2 hx
  obtain ⟨h1, -, h3⟩ := hix_ok tok d1 d2
  refine ⟨h1, fun e i hi => ?_, fun c => ?_⟩
  · have := h3 i hi
    unfold trg at this
    rw [e, if_pos rfl] at this
    exact this
  · have e1 : (∃ i, i < tk t ∧ hc t (mvH t s x) i = c) ↔ ∃ i, i < tk t ∧ trg t (fun i => s (hc t x i)) i = c := by
      constructor
      · rintro ⟨i, hi, q⟩; exact ⟨i, hi, by rw [← h3 i hi]; exact q⟩
      · rintro ⟨i, hi, q⟩; exact ⟨i, hi, by rw [← q]; exact h3 i hi⟩
    rw [e1]
    cases e : tst t
    · have e2 := (srt_ok (tk t) d2).2
      have e3 := fmask_bit (srt (fun i => s (hc t x i)) (tk t)) c (tk t)
      have e4 := fmask_bit (fun i => s (hc t x i)) c (tk t)
      rw [e2] at e3
      have e5 : (∃ i, i < tk t ∧ trg t (fun i => s (hc t x i)) i = c) ↔ ∃ i, i < tk t ∧ srt (fun i => s (hc t x i)) (tk t) i = c := by
        unfold trg; rw [e]; simp
      rw [e5, ← e3, e4]
    · unfold trg; rw [e]; simp
theorem hc_un {t : Tk} (tok : Tok t) {x y : Nat} (hx : x < tH t) (hy : y < tH t) (h : ∀ i, i < tk t → mtc t (hc t y) x i = true) : x = y := by
  have hv := hc_vld tok hy
  have e1 := (mtc_ok tok hv.1 hv.dst hx).mp ((alb_t _).mpr h)
  have e2 := (mtc_ok tok hv.1 hv.dst hy).mp ((alb_t _).mpr (fun i hi => by
    unfold mtc
    split
    · exact decide_eq_true rfl
    · exact (fmask_bit _ _ _).mpr ⟨i, hi, rfl⟩))
  rw [e1, ← e2]
theorem mvH_inj {t : Tk} (tok : Tok t) {s : Nat → Nat} (s1 : ∀ y, y < tn t → s y < tn t) (s2 : ∀ y z, y < tn t → z < tn t → s y = s z → y = z) {x y : Nat} (hx : x < tH t) (hy : y < tH t) (e : mvH t s x = mvH t s y) : x = y := by
  obtain ⟨-, b1, c1⟩ := mvH_ok tok s1 s2 hx
  obtain ⟨-, b2, c2⟩ := mvH_ok tok s1 s2 hy
  have vx := hc_vld tok hx
  have vy := hc_vld tok hy
  refine hc_un tok hx hy (fun i hi => ?_)
  unfold mtc
  cases q : tst t
  · rw [if_neg (by decide)]
    refine (fmask_bit _ _ _).mpr ?_
    have h1 := (c2 (s (hc t y i))).mpr ⟨i, hi, rfl⟩
    rw [← e] at h1
    obtain ⟨j, hj, h2⟩ := (c1 _).mp h1
    exact ⟨j, hj, s2 _ _ (vx.1 j hj) (vy.1 i hi) h2⟩
  · rw [if_pos rfl]
    have h1 := b1 q i hi
    have h2 := b2 q i hi
    rw [e, h2] at h1
    exact decide_eq_true (s2 _ _ (vy.1 i hi) (vx.1 i hi) h1).symm
theorem thd_st {t : Tk} (tok : Tok t) (h : thd t = true) : tst t = false := by
  cases q : tst t
  · rfl
  · have := tok.2.2.2.2.2.2.2.2.2.2.2.2 q; rw [h] at this; cases this
theorem fit_move {t : Tk} (tok : Tok t) {s : Nat → Nat} (s1 : ∀ y, y < tn t → s y < tn t) (s2 : ∀ y z, y < tn t → z < tn t → s y = s z → y = z) {x : Nat} (hx : x < tH t) {p : Nat → Nat} (hp : vld (tk t) (tsh t) (!anyO t) p) {v : Nat → Nat} (hv : ∀ i, i < tsh t → s (hc t x (p i)) = v i) (hr : thd t = true → ∀ j, j < tsh t → ∀ i, i < j → v i < v j) {r : Nat} (he : r / tT t = rowN (tn t) v (tsh t)) : fitP t (mvH t s x) r := by
  obtain ⟨a1, b1, c1⟩ := mvH_ok tok s1 s2 hx
  cases q : tst t
  · have key : ∀ i, i < tsh t → ∃ j, j < tk t ∧ hc t (mvH t s x) j = v i := fun i hi => (c1 (v i)).mpr ⟨p i, hp.1 i hi, hv i hi⟩
    have hm := hc_vld tok a1
    have hd : dst v (tsh t) := fun i j h1 h2 e => by
      rw [← hv i (by omega), ← hv j h2] at e
      have vx := hc_vld tok hx
      have e2 := s2 _ _ (vx.1 _ (hp.1 i (by omega))) (vx.1 _ (hp.1 j h2)) e
      have hpd := hp.dst i j h1 h2
      rcases Nat.lt_trichotomy (p i) (p j) with c | c | c
      · exact vx.dst _ _ c (hp.1 j h2) e2
      · exact hpd c
      · exact vx.dst _ _ c (hp.1 i (by omega)) e2.symm
    have kf : ∃ p' : Nat → Nat, ∀ i, i < tsh t → p' i < tk t ∧ hc t (mvH t s x) (p' i) = v i := by
      refine ⟨fun i => if h : ∃ j, j < tk t ∧ hc t (mvH t s x) j = v i then Classical.choose h else 0, fun i hi => ?_⟩
      show dite _ _ _ < tk t ∧ hc t (mvH t s x) (dite _ _ _) = v i
      rw [dif_pos (key i hi)]
      exact Classical.choose_spec (key i hi)
    obtain ⟨p', hp'⟩ := kf
    refine ⟨p', ⟨fun i hi => (hp' i hi).1, fun j hj i hi => ?_⟩, by rw [he]; exact rowN_congr _ (fun i hi => (hp' i hi).2.symm)⟩
    cases e : thd t
    · have : (!anyO t) = false := by unfold anyO; rw [q, e]; rfl
      rw [this, if_neg (by decide)]
      intro e2
      have h1 := (hp' i (by omega)).2
      rw [e2, (hp' j hj).2] at h1
      exact hd i j hi hj h1.symm
    · have : (!anyO t) = true := by unfold anyO; rw [q, e]; rfl
      rw [this, if_pos rfl]
      have h1 := hr e j hj i hi
      rw [← (hp' i (by omega)).2, ← (hp' j hj).2] at h1
      rw [q] at hm
      refine Classical.byContradiction (fun c => ?_)
      rcases Nat.lt_or_eq_of_le (Nat.le_of_not_lt c) with c | c
      · have h2 := hm.2 (p' i) (hp' i (by omega)).1 (p' j) c
        rw [if_pos (by decide)] at h2
        omega
      · rw [c] at h1; omega
  · refine ⟨p, hp, ?_⟩
    rw [he]
    refine rowN_congr _ (fun i hi => ?_)
    rw [b1 q _ (hp.1 i hi), hv i hi]
noncomputable def fitD (t : Tk) (x r : Nat) : Bool := @decide (fitP t x r) (Classical.propDecidable _)
theorem fitD_iff {t : Tk} {x r : Nat} : fitD t x r = true ↔ fitP t x r := @decide_eq_true_iff _ (Classical.propDecidable _)
/-- a row's cards rise, if she holds -/
theorem hc_ris {t : Tk} (tok : Tok t) (h : thd t = true) {x : Nat} (hx : x < tH t) {p : Nat → Nat} (hp : vld (tk t) (tsh t) (!anyO t) p) : ∀ j, j < tsh t → ∀ i, i < j → hc t x (p i) < hc t x (p j) := by
  intro j hj i hi
  have hst := thd_st tok h
  have hv := hc_vld tok hx
  have hao : (!anyO t) = true := by unfold anyO; rw [hst, h]; rfl
  rw [hao] at hp
  rw [hst] at hv
  have h1 := hp.2 j hj i hi
  rw [if_pos rfl] at h1
  have h2 := hv.2 (p j) (hp.1 j hj) (p i) h1
  simpa using h2
theorem deg_le {t : Tk} (tok : Tok t) {x0 y0 r r' : Nat} (hx0 : x0 < tH t) (hy0 : y0 < tH t) (f1 : fitP t x0 r) (f2 : fitP t y0 r') : cnS (fun x => fitD t x r) (tH t) ≤ cnS (fun x => fitD t x r') (tH t) := by
  obtain ⟨p, p1, p2⟩ := f1
  obtain ⟨q, q1, q2⟩ := f2
  obtain ⟨a1, a2⟩ := pos_ok tok hx0 p1
  obtain ⟨b1, b2⟩ := pos_ok tok hy0 q1
  obtain ⟨s, s1, s2, s3⟩ := prm_ex (tsh t) a1 b1 a2 b2
  refine cnS_inj (f := mvH t s) (fun x hx hq => ⟨(mvH_ok tok s1 s2 hx).1, fitD_iff.mpr ?_⟩) (fun x y hxy hy _ _ e => ?_)
  · obtain ⟨u, u1, u2⟩ := fitD_iff.mp hq
    obtain ⟨c1, c2⟩ := pos_ok tok hx u1
    have e := rowN_inj c1 c2 a1 a2 (u2.symm.trans p2)
    exact fit_move tok s1 s2 hx u1 (v := fun i => hc t y0 (q i)) (fun i hi => by rw [e i hi]; exact s3 i hi) (fun h => hc_ris tok h hy0 q1) q2
  · have := mvH_inj tok s1 s2 (by omega) hy e
    omega
theorem deg_hand {t : Tk} (tok : Tok t) {x : Nat} (hx : x < tH t) : cnS (fun r => fitD t x r) (tR t) = pcn t * tT t := by
  have e0 : cnS (fun _ => true) (pcn t * tT t) = pcn t * tT t := cnS_full (fun _ _ => rfl)
  refine Nat.le_antisymm ?_ ?_
  · rw [← e0]
    have key : ∀ r, fitD t x r = true → ∃ v, v < pcn t * tT t ∧ rwA t x v = r := fun r h => rwA_ex tok ((crC_fit tok hx r).mpr (fitD_iff.mp h))
    refine cnS_inj (f := fun r => if h : ∃ v, v < pcn t * tT t ∧ rwA t x v = r then Classical.choose h else 0) (fun r hr hq => ⟨?_, rfl⟩) (fun r r' hrr hr' h1 h2 q => ?_)
    · show dite _ _ _ < _
      rw [dif_pos (key r hq)]
      exact (Classical.choose_spec (key r hq)).1
    · rw [dif_pos (key r h1), dif_pos (key r' h2)] at q
      have a := (Classical.choose_spec (key r h1)).2
      have b := (Classical.choose_spec (key r' h2)).2
      rw [q, b] at a
      omega
  · rw [← e0]
    refine cnS_inj (f := rwA t x) (fun v hv _ => ?_) (fun v u hvu hu _ _ e => ?_)
    · have := rwA_fit tok (x := x) hv
      have h2 := (crC_fit tok hx _).mp this
      exact ⟨fitP_lt tok hx h2, fitD_iff.mpr h2⟩
    · have := rwA_asc tok hx hvu hu
      omega
noncomputable def fitA (t : Tk) (r : Nat) : Bool := @decide (∃ x, x < tH t ∧ fitD t x r = true) (Classical.propDecidable _)
theorem fitA_iff {t : Tk} {r : Nat} : fitA t r = true ↔ ∃ x, x < tH t ∧ fitD t x r = true := @decide_eq_true_iff _ (Classical.propDecidable _)
theorem fitA_ex {t : Tk} (tok : Tok t) {v : Nat → Nat} (h1 : dst v (tsh t)) (h2 : ∀ i, i < tsh t → v i < tn t) (hr : thd t = true → ∀ j, j < tsh t → ∀ i, i < j → v i < v j) {r : Nat} (he : r / tT t = rowN (tn t) v (tsh t)) : fitA t r = true := by
  obtain ⟨bn4, bn12, bu1, bu4, bnu, bk2, bk5, bkn, bp1, bp2, bpk, bH, bsp, bs1, bs4, bT1, bT16, bR1, bR2, bH1, bff, bff1⟩ := tok.b
  have h0 : 0 < tH t := bH1
  have hp : vld (tk t) (tsh t) (!anyO t) (fun i => i) := ⟨fun i hi => (by omega : i < tk t), fun j hj i hi => by
    show if (!anyO t) = true then i < j else i ≠ j
    split <;> omega⟩
  obtain ⟨a1, a2⟩ := pos_ok tok h0 hp
  obtain ⟨s, s1, s2, s3⟩ := prm_ex (tsh t) a1 h1 a2 h2
  exact fitA_iff.mpr ⟨_, (mvH_ok tok s1 s2 h0).1, fitD_iff.mpr (fit_move tok s1 s2 h0 hp s3 hr he)⟩
