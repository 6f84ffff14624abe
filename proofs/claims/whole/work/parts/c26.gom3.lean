/-! the model's reader goes on -/
def h7m (h : Zh) (q : Nat) : Zh := zsI (zsI (zsI h 76 10 (iI q)) 76 9 (iI 0)) 76 11 (iI 0)
theorem h7m_fm (h : Zh) (q : Nat) : Fm [76] h (h7m h q) := ((Fm_sI _ _ _ (by simp)).tr (Fm_sI _ _ _ (by simp))).tr (Fm_sI _ _ _ (by simp))
theorem h7m_j (h : Zh) (q : Nat) {j : Nat} (a : j ≠ 9) (b : j ≠ 10) (c : j ≠ 11) : zI (h7m h q) 76 j = zI h 76 j := by
  unfold h7m
  rw [zI_sI, z2_k _ _ _ c, zI_sI, z2_k _ _ _ a, zI_sI, z2_k _ _ _ b]
theorem h7m_9 (h : Zh) (q : Nat) : zI (h7m h q) 76 9 = iI 0 := by unfold h7m; rw [zI_sI, z2_k _ _ _ (by decide), zI_sI, z2_at]
theorem h7m_10 (h : Zh) (q : Nat) : zI (h7m h q) 76 10 = iI q := by unfold h7m; rw [zI_sI, z2_k _ _ _ (by decide), zI_sI, z2_k _ _ _ (by decide), zI_sI, z2_at]
theorem h7m_11 (h : Zh) (q : Nat) : zI (h7m h q) 76 11 = iI 0 := by unfold h7m; rw [zI_sI, z2_at]
/-- from the byte on -/
theorem gok_0 {g h : Zh} {q : Nat} {b : Int} (h8 : zI h 76 8 = iI q) (e1 : fX12_byteAt 76 (iI q) (h7m h q) = some (iI b, h7m h q)) : kX12_goesOn_9 g 76 1 h = if iI b = (-1 : Int32) then some (zsI (h7m h q) 76 9 (iI 1)) else zc2 (fX12_isLetter (iI b) (h7m h q)) fun v11 h10 => if v11 = 0 then zc2 (fX12_isDigit (iI b) h10) fun v13 h12 => if v13 = 0 then if iI b = ((59 : Int32)) then jX12_goesOn_261 g 76 (iI b) h12 else if iI b = ((44 : Int32)) then jX12_goesOn_261 g 76 (iI b) h12 else some h12 else zlet (zsI h12 76 12 ((0 : Int32))) fun h17 => (lp (fun q : Int32 × Zh => bX12_goesOn_178 g 76 q.1 q.2) zB ((0 : Int32), h17)).bind fun q => kX12_goesOn_178 g 76 q.1 q.2.1 q.2.2 else zlet (zsJ h10 76 15 ((0 : Int64))) fun h30 => (lp (fun q : Int32 × Zh => bX12_goesOn_89 g 76 q.1 q.2) zB ((0 : Int32), h30)).bind fun q => kX12_goesOn_89 g 76 q.1 q.2.1 q.2.2 := by
  unfold kX12_goesOn_9
  rw [zlet_eq, zlet_eq, zlet_eq, h8]
  have e8 : zI (zsI (zsI (zsI h 76 10 (iI q)) 76 9 0) 76 11 0) 76 8 = iI q := by rw [show zsI (zsI (zsI h 76 10 (iI q)) 76 9 0) 76 11 0 = h7m h q from rfl, h7m_j h q (by decide) (by decide) (by decide)]; exact h8
  rw [e8]
  refine (zc_of (show fX12_byteAt 76 (iI q) (zsI (zsI (zsI h 76 10 (iI q)) 76 9 0) 76 11 0) = some (iI b, h7m h q) from e1) _).trans ?_
  rfl
theorem go_k {g h : Zh} {tx : Nat → Int} {n p : Nat} (s : St h) (tm : TxM h tx n) (hp : p ≤ n) (h8 : zI h 76 8 = iI (skp tx n p)) : ∃ h', kX12_goesOn_9 g 76 1 h = some h' ∧ Fj [76] h h' ∧ (∀ j, ¬ M6 j → zI h' 76 j = zI h 76 j) ∧ RdM h' tx n p := by
  obtain ⟨hb1, hb2⟩ := skp_b tx hp
  have hn := tm.1
  have f7 := h7m_fm h (skp tx n p)
  have s7 := s.fm f7
  have tm7 := tm.fm f7 (h7m_j h _ (by decide) (by decide) (by decide)) (by simp)
  have j7 := fun {j : Nat} => @h7m_j h (skp tx n p) j
  have j9 := h7m_9 h (skp tx n p)
  have j10 := h7m_10 h (skp tx n p)
  have j11 := h7m_11 h (skp tx n p)
  have j8 : zI (h7m h (skp tx n p)) 76 8 = iI (skp tx n p) := by rw [j7 (by decide) (by decide) (by decide)]; exact h8
  have e1 := byteAt_m (k := skp tx n p) s7 tm7 (by omega)
  have hbb := byt_b (k := skp tx n p) tm7
  rw [gok_0 h8 e1]
  generalize hH : h7m h (skp tx n p) = H at *
  by_cases c0 : n ≤ skp tx n p
  · have kk : tkK tx n p = 0 := by unfold tkK; rw [if_pos c0]
    have kn : tkN tx n p = skp tx n p := by unfold tkN; rw [if_pos c0]
    have hby : byt tx n (skp tx n p) = -1 := by unfold byt; rw [if_neg (by omega)]
    have f9 : Fm [76] H (zsI H 76 9 (iI 1)) := Fm_sI _ _ _ (by simp)
    have z9 : ∀ j, j ≠ 9 → zI (zsI H 76 9 (iI 1)) 76 j = zI H 76 j := fun j hj => by rw [zI_sI, z2_k _ _ _ hj]
    refine ⟨zsI H 76 9 (iI 1), ?_, (f7.tr f9).j, fun j hj => by unfold M6 at hj; rw [z9 j (by omega), j7 (by omega) (by omega) (by omega)], hp, tm7.fm f9 (z9 7 (by decide)) (by simp), by rw [zI_sI, z2_at, kk]; rfl, by rw [z9 10 (by decide)]; exact j10, fun _ => by rw [z9 8 (by decide), kn]; exact j8, fun q => by omega, fun q => by omega, by rw [z9 11 (by decide), kk]; exact j11⟩
    rw [hby, if_pos (by decide)]
  · have tb := tm.2.2 (skp tx n p) (by omega)
    have hby : byt tx n (skp tx n p) = ub (tx (skp tx n p)) := by unfold byt; rw [if_pos (by omega)]
    have hub := ub_b tb.2.1 tb.2.2
    rw [hby] at hbb ⊢
    have hne1 : ¬ iI (ub (tx (skp tx n p))) = (-1 : Int32) := by
      rw [show (-1 : Int32) = iI (-1) from rfl, iI_eq ⟨by omega, by omega⟩ ⟨by decide, by decide⟩]; omega
    rw [if_neg hne1, zc_of (isLetter_m (h := H) (c := ub (tx (skp tx n p))) (by omega)), ltr_ub tb.2.1 tb.2.2]
    by_cases c1 : ltr (tx (skp tx n p)) = true
    · rw [c1, if_neg (by decide), zlet_eq]
      have f3 : Fj [76] H (zsJ H 76 15 (jI 0)) := Fj_sJ _ _ _ (by simp)
      have s3 := s7.fj f3
      obtain ⟨h4, l1, l2, l3, l4, l5⟩ := go_89 (g := g) (s := skp tx n p) s3 (tm7.fj f3 rfl (by simp)) hb2 j8 (by rw [zJ_sJ, z2_at])
      have hrb := rnl_b 97 122 tx hb2
      have kn : tkN tx n p = skp tx n p + rnl 97 122 tx n (skp tx n p) := by unfold tkN; rw [if_neg c0, if_pos c1]
      have kk : tkK tx n p = if rnl 97 122 tx n (skp tx n p) ≤ 8 then 1 else 5 := by unfold tkK; rw [if_neg c0, if_pos c1]
      have lj : ∀ j, j ≠ 8 → zI h4 76 j = zI H 76 j := fun j hj => by rw [l3 j hj]; rfl
      have tm4 := (tm7.fj f3 rfl (by simp)).fj l2 (l3 7 (by decide)) (by simp)
      refine (show ∃ h', (lp (fun q : Int32 × Zh => bX12_goesOn_89 g 76 q.1 q.2) zB (iI 0, zsJ H 76 15 (jI 0))).bind (fun q => kX12_goesOn_89 g 76 q.1 q.2.1 q.2.2) = some h' ∧ _ from ?_)
      by_cases c2 : rnl 97 122 tx n (skp tx n p) ≤ 8
      · rw [if_pos c2] at kk
        have f5 : Fm [76] h4 (zsI h4 76 9 (iI 2)) := Fm_sI _ _ _ (by simp)
        have z9 : ∀ j, j ≠ 9 → zI (zsI h4 76 9 (iI 2)) 76 j = zI h4 76 j := fun j hj => by rw [zI_sI, z2_k _ _ _ hj]
        refine ⟨zsI h4 76 9 (iI 2), ?_, ((f7.j.tr f3).tr l2).tr f5.j, fun j hj => by unfold M6 at hj; rw [z9 j (by omega), lj j (by omega), j7 (by omega) (by omega) (by omega)], hp, tm4.fm f5 (z9 7 (by decide)) (by simp), by rw [zI_sI, z2_at, kk]; rfl, by rw [z9 10 (by decide), lj 10 (by decide)]; exact j10, fun _ => by rw [z9 8 (by decide), kn]; exact l4, fun _ => by rw [zJ_sI, l5, Nat.min_eq_left c2], fun q => by omega, by rw [z9 11 (by decide), lj 11 (by decide), kk]; exact j11⟩
        refine (lp_bd l1).trans ?_
        show kX12_goesOn_89 g 76 1 (iI (rnl 97 122 tx n (skp tx n p))) h4 = _
        unfold kX12_goesOn_89
        rw [if_neg (by rw [show (8 : Int32) = iI 8 from rfl, iI_lt ⟨by decide, by decide⟩ ⟨by omega, by omega⟩]; omega), zlet_eq]
        rfl
      · rw [if_neg c2] at kk
        refine ⟨h4, ?_, (f7.j.tr f3).tr l2, fun j hj => by unfold M6 at hj; rw [lj j (by omega), j7 (by omega) (by omega) (by omega)], hp, tm4, by rw [lj 9 (by decide), kk]; exact j9, by rw [lj 10 (by decide)]; exact j10, fun q => absurd kk q, fun q => by omega, fun q => by omega, by rw [lj 11 (by decide), kk]; exact j11⟩
        refine (lp_bd l1).trans ?_
        show kX12_goesOn_89 g 76 1 (iI (rnl 97 122 tx n (skp tx n p))) h4 = _
        unfold kX12_goesOn_89
        rw [if_pos (by rw [show (8 : Int32) = iI 8 from rfl, iI_lt ⟨by decide, by decide⟩ ⟨by omega, by omega⟩]; omega)]
    · have c1f : ltr (tx (skp tx n p)) = false := Bool.eq_false_iff.mpr c1
      rw [c1f, if_pos (by decide), zc_of (isDigit_m (h := H) (c := ub (tx (skp tx n p))) (by omega)), dgt_ub tb.2.1 tb.2.2]
      by_cases c3 : dgt0 (tx (skp tx n p)) = true
      · rw [c3, if_neg (by decide), zlet_eq]
        have f3 : Fm [76] H (zsI H 76 12 (iI 0)) := Fm_sI _ _ _ (by simp)
        have s3 := s7.fm f3
        have i3 : ∀ j, j ≠ 12 → zI (zsI H 76 12 (iI 0)) 76 j = zI H 76 j := fun j hj => by rw [zI_sI, z2_k _ _ _ hj]
        obtain ⟨h4, l1, l2, l3, l4, l5⟩ := go_178 (g := g) (s := skp tx n p) s3 (tm7.fm f3 (i3 7 (by decide)) (by simp)) hb2 (by rw [i3 8 (by decide)]; exact j8) (by rw [zI_sI, z2_at])
        have hrb := rnl_b 48 57 tx hb2
        have kn : tkN tx n p = skp tx n p + rnl 48 57 tx n (skp tx n p) := by unfold tkN; rw [if_neg c0, if_neg c1, if_pos c3]
        have kk : tkK tx n p = if rnl 48 57 tx n (skp tx n p) ≤ 3 then 2 else 5 := by unfold tkK; rw [if_neg c0, if_neg c1, if_pos c3]
        have lj : ∀ j, j ≠ 8 → j ≠ 12 → zI h4 76 j = zI H 76 j := fun j hj hj2 => by rw [l3 j hj hj2, i3 j hj2]
        have tm4 := (tm7.fm f3 (i3 7 (by decide)) (by simp)).fm l2 (l3 7 (by decide) (by decide)) (by simp)
        refine (show ∃ h', (lp (fun q : Int32 × Zh => bX12_goesOn_178 g 76 q.1 q.2) zB (iI 0, zsI H 76 12 (iI 0))).bind (fun q => kX12_goesOn_178 g 76 q.1 q.2.1 q.2.2) = some h' ∧ _ from ?_)
        by_cases c2 : rnl 48 57 tx n (skp tx n p) ≤ 3
        · rw [if_pos c2] at kk
          have f5 : Fm [76] h4 (zsI h4 76 9 (iI 3)) := Fm_sI _ _ _ (by simp)
          have z9 : ∀ j, j ≠ 9 → zI (zsI h4 76 9 (iI 3)) 76 j = zI h4 76 j := fun j hj => by rw [zI_sI, z2_k _ _ _ hj]
          refine ⟨zsI h4 76 9 (iI 3), ?_, (((f7.tr f3).tr l2).tr f5).j, fun j hj => by unfold M6 at hj; rw [z9 j (by omega), lj j (by omega) (by omega), j7 (by omega) (by omega) (by omega)], hp, tm4.fm f5 (z9 7 (by decide)) (by simp), by rw [zI_sI, z2_at, kk]; rfl, by rw [z9 10 (by decide), lj 10 (by decide) (by decide)]; exact j10, fun _ => by rw [z9 8 (by decide), kn]; exact l4, fun q => by omega, fun _ => by rw [z9 12 (by decide), l5, Nat.min_eq_left c2]; rfl, by rw [z9 11 (by decide), lj 11 (by decide) (by decide), kk]; exact j11⟩
          refine (lp_bd l1).trans ?_
          show kX12_goesOn_178 g 76 1 (iI (rnl 48 57 tx n (skp tx n p))) h4 = _
          unfold kX12_goesOn_178
          rw [if_neg (by rw [show (3 : Int32) = iI 3 from rfl, iI_lt ⟨by decide, by decide⟩ ⟨by omega, by omega⟩]; omega), zlet_eq]
          rfl
        · rw [if_neg c2] at kk
          refine ⟨h4, ?_, ((f7.tr f3).tr l2).j, fun j hj => by unfold M6 at hj; rw [lj j (by omega) (by omega), j7 (by omega) (by omega) (by omega)], hp, tm4, by rw [lj 9 (by decide) (by decide), kk]; exact j9, by rw [lj 10 (by decide) (by decide)]; exact j10, fun q => absurd kk q, fun q => by omega, fun q => by omega, by rw [lj 11 (by decide) (by decide), kk]; exact j11⟩
          refine (lp_bd l1).trans ?_
          show kX12_goesOn_178 g 76 1 (iI (rnl 48 57 tx n (skp tx n p))) h4 = _
          unfold kX12_goesOn_178
          rw [if_pos (by rw [show (3 : Int32) = iI 3 from rfl, iI_lt ⟨by decide, by decide⟩ ⟨by omega, by omega⟩]; omega)]
      · have c3f : dgt0 (tx (skp tx n p)) = false := Bool.eq_false_iff.mpr c3
        rw [c3f, if_pos (by decide)]
        have kn : tkN tx n p = skp tx n p + 1 := by unfold tkN; rw [if_neg c0, if_neg c1, if_neg c3]
        have kk : tkK tx n p = if tx (skp tx n p) = 59 then 3 else if tx (skp tx n p) = 44 then 4 else 5 := by unfold tkK; rw [if_neg c0, if_neg c1, if_neg c3]
        have hsg : ∀ b : Int, jX12_goesOn_261 g 76 (iI b) H = some (zsI (zsI (zsI H 76 9 (iI 4)) 76 11 (iI b)) 76 8 (iI ((skp tx n p + 1 : Nat) : Int))) := fun b => by
          unfold jX12_goesOn_261
          rw [zlet_eq, zlet_eq, zlet_eq, zI_sI, z2_k _ _ _ (by decide), zI_sI, z2_k _ _ _ (by decide), j8, show (1 : Int32) = iI 1 from rfl, iI_add]
          rfl
        have fS : ∀ b : Int, Fm [76] H (zsI (zsI (zsI H 76 9 (iI 4)) 76 11 (iI b)) 76 8 (iI ((skp tx n p + 1 : Nat) : Int))) := fun b => ((Fm_sI _ _ _ (by simp)).tr (Fm_sI _ _ _ (by simp))).tr (Fm_sI _ _ _ (by simp))
        have zS : ∀ (b : Int) j, j ≠ 9 → j ≠ 11 → j ≠ 8 → zI (zsI (zsI (zsI H 76 9 (iI 4)) 76 11 (iI b)) 76 8 (iI ((skp tx n p + 1 : Nat) : Int))) 76 j = zI H 76 j := fun b j a1 a2 a3 => by rw [zI_sI, z2_k _ _ _ a3, zI_sI, z2_k _ _ _ a2, zI_sI, z2_k _ _ _ a1]
        have eqb : ∀ k : Int, 0 ≤ k → k < 128 → ((iI (ub (tx (skp tx n p))) = iI k) ↔ tx (skp tx n p) = k) := fun k k0 k1 => by
          rw [iI_eq ⟨by omega, by omega⟩ ⟨by omega, by omega⟩]; omega
        by_cases c4 : tx (skp tx n p) = 59
        · rw [if_pos c4] at kk
          have hu : ub (tx (skp tx n p)) = 59 := by rw [c4]; rfl
          refine ⟨_, ?_, (f7.tr (fS 59)).j, fun j hj => by unfold M6 at hj; rw [zS 59 j (by omega) (by omega) (by omega), j7 (by omega) (by omega) (by omega)], hp, tm7.fm (fS 59) (zS 59 7 (by decide) (by decide) (by decide)) (by simp), by rw [zI_sI, z2_k _ _ _ (by decide), zI_sI, z2_k _ _ _ (by decide), zI_sI, z2_at, kk]; rfl, by rw [zS 59 10 (by decide) (by decide) (by decide)]; exact j10, fun _ => by rw [zI_sI, z2_at, kn], fun q => by omega, fun q => by omega, by rw [zI_sI, z2_k _ _ _ (by decide), zI_sI, z2_at, kk]; rfl⟩
          rw [hu, if_pos (by decide)]
          exact hsg 59
        · rw [if_neg c4] at kk
          have h59 : ¬ iI (ub (tx (skp tx n p))) = (59 : Int32) := fun z => c4 ((eqb 59 (by decide) (by decide)).mp z)
          rw [if_neg h59]
          by_cases c5 : tx (skp tx n p) = 44
          · rw [if_pos c5] at kk
            have hu : ub (tx (skp tx n p)) = 44 := by rw [c5]; rfl
            refine ⟨_, ?_, (f7.tr (fS 44)).j, fun j hj => by unfold M6 at hj; rw [zS 44 j (by omega) (by omega) (by omega), j7 (by omega) (by omega) (by omega)], hp, tm7.fm (fS 44) (zS 44 7 (by decide) (by decide) (by decide)) (by simp), by rw [zI_sI, z2_k _ _ _ (by decide), zI_sI, z2_k _ _ _ (by decide), zI_sI, z2_at, kk]; rfl, by rw [zS 44 10 (by decide) (by decide) (by decide)]; exact j10, fun _ => by rw [zI_sI, z2_at, kn], fun q => by omega, fun q => by omega, by rw [zI_sI, z2_k _ _ _ (by decide), zI_sI, z2_at, kk]; rfl⟩
            rw [hu, if_pos (by decide)]
            exact hsg 44
          · rw [if_neg c5] at kk
            have h44 : ¬ iI (ub (tx (skp tx n p))) = (44 : Int32) := fun z => c5 ((eqb 44 (by decide) (by decide)).mp z)
            rw [if_neg h44]
            exact ⟨H, rfl, f7.j, fun j hj => by unfold M6 at hj; rw [j7 (by omega) (by omega) (by omega)], hp, tm7, by rw [kk]; exact j9, j10, fun q => absurd kk q, fun q => by omega, fun q => by omega, by rw [kk]; exact j11⟩
theorem fX12_goesOn_eq {h : Zh} {tx : Nat → Int} {n p : Nat} {so : Int} (s : St h) (tm : TxM h tx n) (hp : p ≤ n) (h8 : zI h 76 8 = iI p) (h9 : zI h 76 9 = iI so) (hso : 0 ≤ so ∧ so < 5) : ∃ h', fX12_goesOn 76 h = some h' ∧ Fj [76] h h' ∧ (∀ j, ¬ M6 j → zI h' 76 j = zI h 76 j) ∧ RdM h' tx n p := by
  obtain ⟨h3, l1, l2, l3, l4⟩ := go_9 (g := h) s tm hp h8
  have s3 := s.fm l2
  obtain ⟨h4, q1, q2, q3, q4⟩ := go_k (g := h) s3 (tm.fm l2 (l3 7 (by decide)) (by simp)) hp l4
  refine ⟨h4, ?_, l2.j.tr q2, fun j hj => by rw [q3 j hj, l3 j (fun e => hj (Or.inl e))], q4⟩
  unfold fX12_goesOn
  rw [zlet_eq, if_pos (sK76 s), h9, if_neg (by rw [show (5 : Int32) = iI 5 from rfl, iI_eq ⟨by omega, by omega⟩ ⟨by decide, by decide⟩]; omega)]
  exact (lp_bd l1).trans q1
theorem fX12_goesOn_5 {h : Zh} (s : St h) (h9 : zI h 76 9 = iI 5) : fX12_goesOn 76 h = some h := by
  unfold fX12_goesOn
  simp (maxSteps := 1000000) (disch := (first | assumption | exact ne_b rfl | omega)) only [↓reduceIte, ↓zlet_eq, ↓bdR_sI, ↓bdR_sJ, ↓bdR_aI, zc2_some, Option.bind_some, ↓si_m1, ↓si_m2, ↓si_m3, iI_lit, iI_add, iI_sub, iI_mul, leT, leF, ltT, ltF, eqT, eqF, zinT, clI, Int.toNat_natCast, Int.reduceToNat, tN1, tNa, tN0, tNm, if_pos, if_neg, zI_sI, zI_sJ, zI_sR, zJ_sI, zJ_sJ, zJ_sR, zR_sI, zR_sJ, zR_sR, zK_sI, zK_sJ, zK_sR, zL_sI, zL_sJ, zL_sR, zI_aI, zJ_aI, zR_aI, zK_aI, zL_aI, z2_at, z2_a, z2_k, z1_self, z1_ne, true_and, and_true, bIt, bIf, Bool.false_eq_true, Bool.true_eq_false, eq_self, not_true_eq_false, not_false_eq_true, sK76, sK77, sK78, sK79, sK80, sK81, sK82, sK83, sK84, sK85, sK86, sK87, sK88, sK89, sK90, sK91, sK92, sK93, sK94, sK95, sK96, sK97, sK98, sK99, sK100, sL77, sL78, sL79, sL80, sL81, sL82, sL83, sL84, sL85, sL86, sL87, sL88, sL89, sL90, sL91, sL92, sL93, sL94, sL95, sL96, sL97, sL98, sL99, sL100, sR76_5, sR76_16, sR76_18, sR76_19, sR76_20, sR76_21, sR76_23, sR76_25, sR76_26, sR76_27, sR76_28, sR76_29, sR76_30, sR76_31, sR76_32, sR76_33, sR76_34, sR76_37, sR76_38, sR76_39, sR76_40, sR76_41, sR76_42, ↓sB76_5, ↓sB76_16, ↓sB76_18, ↓sB76_19, ↓sB76_20, ↓sB76_21, ↓sB76_23, ↓sB76_25, ↓sB76_26, ↓sB76_27, ↓sB76_28, ↓sB76_29, ↓sB76_30, ↓sB76_31, ↓sB76_32, ↓sB76_33, ↓sB76_34, ↓sB76_37, ↓sB76_38, ↓sB76_39, ↓sB76_40, ↓sB76_41, ↓sB76_42, h9]
