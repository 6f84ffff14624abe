/-! the class's reader: the trick's line -/
theorem cN_p {tx : Nat → Int} {n lo hi p : Nat} : Pz (cN tx n lo hi p) (fun v q => q = p ∧ v = tkW tx n p ∧ tkK tx n p = 2 ∧ lo ≤ v ∧ v ≤ hi) := by
  unfold cN
  exact Pz.ite (fun c => Pz.ite (fun c2 => Pz.rt ⟨rfl, rfl, c, c2.1, c2.2⟩) (fun _ => Pz.er)) (fun _ => Pz.er)
theorem Fm.o {S : List Nat} {a b : Zh} (f : Fm S a b) {x : Nat} (hx : x ∉ S) (j : Nat) : zI b x j = zI a x j := by rw [f.I hx]
theorem readSuits_c {h : Zh} {tx : Nat → Int} {n p dk c : Nat} (q : RD h tx n p) (hdk : dk = 14 ∨ dk = 20) (hk : zK h dk = 0) (h0 : zI h dk 0 = iI c) (hc : c ≤ 12) : CRt (fX7_readSuits 2 dk h) h [2, dk] 0 (pU tx n c p) (fun u p' w h' => w = iI 1 ∧ RD h' tx n p' ∧ zI h' dk 1 = iI u ∧ ∀ j, j ≠ 1 → zI h' dk j = zI h dk j) := by
  have k2 := sK2 q.1
  have n2 : dk ∉ [2] := by simp; omega
  obtain ⟨w, h2, e1, f1, m⟩ := pass_c (s := 2) q (by decide)
  have ee : fX7_readSuits 2 dk h = if w = 0 then some ((0 : Int32), h2) else zc2 (fX7_isWhole 2 ((1 : Int32)) ((4 : Int32)) h2) fun v5 h4 => if v5 = 0 then some ((0 : Int32), h4) else if (zI h4 2 11) < ((1 : Int32)) then zc2 (fX7_fail 2 ((4 : Int32)) h4) fun v7 h6 => if v7 = 0 ∨ v7 = 1 then some (v7, h6) else none else if zK h dk = 0 then if ¬ (zI h4 2 11) = 0 then if (zrem (zI h4 dk 0) (zI h4 2 11)) = 0 then zlet (zsI h4 dk 1 (zI h4 2 11)) fun h11 => (fX7_step 2 h11).bind fun h12 => some ((1 : Int32), h12) else zc2 (fX7_fail 2 ((4 : Int32)) h4) fun v14 h13 => if v14 = 0 ∨ v14 = 1 then some (v14, h13) else none else none else none := by
    unfold fX7_readSuits
    rw [zlet_eq, if_pos k2]
    exact zc_of e1 _
  rw [ee]
  unfold pU
  rcases m with ⟨f, y, z1, z2, z3, z4⟩ | ⟨a, y, z1, z2, z3⟩
  · rw [z1, bn_er]
    refine CRt.er (h' := h2) ?_ (f1.mono (by simp)) z3 z4
    rw [z2, if_pos (by decide)]
    rfl
  · rw [z1, bn_rt, z2, if_neg (by decide)]
    obtain ⟨w4, h4, e2, f2, m2⟩ := isWhole_c (lo := 1) (hi := 4) z3 (by decide) (by decide)
    rw [show fX7_isWhole 2 (1 : Int32) (4 : Int32) h2 = some (w4, h4) from e2, zc2_some]
    unfold cU
    rcases m2 with ⟨f, y2, x1, x2, x3, x4⟩ | ⟨v, y2, x1, x2, x3, x4⟩
    · rw [x1, bn_er, bn_er]
      refine CRt.er (h' := h4) ?_ ((f1.tr f2).mono (by simp)) x3 x4
      rw [x2, if_pos (by decide)]
      rfl
    · obtain ⟨p1, p2, p3, p4, p5⟩ := cN_p v y2 x1
      rw [x1, bn_rt, x2, if_neg (by decide)]
      subst x3
      rw [← p2] at x4
      have c4 : zI h4 dk 0 = iI c := by rw [f1.o n2]; exact h0
      have hr := si_remN (a := c) (b := v) (by omega) (by omega) (by omega)
      have hlt : c % v < v := Nat.mod_lt _ (by omega)
      have hcv : ¬ iI (v : Int) = 0 := by rw [show (0 : Int32) = iI 0 from rfl, iI_eq ⟨by omega, by omega⟩ ⟨by decide, by decide⟩]; omega
      have hcv1 : ¬ iI (v : Int) < (1 : Int32) := by rw [show (1 : Int32) = iI 1 from rfl, iI_lt ⟨by omega, by omega⟩ ⟨by decide, by decide⟩]; omega
      rw [x4, if_neg hcv1, if_pos hk, if_pos hcv, c4, hr]
      by_cases cc : c % v = 0
      · rw [if_pos cc, bn_rt, cc, if_pos (by rfl), zlet_eq]
        have f5 : Fm [dk] h4 (zsI h4 dk 1 (iI v)) := Fm_sI _ _ _ (by simp)
        obtain ⟨h6, s1, s2, s3⟩ := step_c (z3.fm f5 (by simp; omega) (by simp; omega))
        rw [p1]
        refine CRt.rt (h' := h6) (w := iI 1) (bd_of s1 _) ((f1.mono (by simp)).tr ((f5.mono (by simp)).tr (s2.mono (by simp)))) ⟨rfl, s3, ?_, fun j hj => ?_⟩
        · rw [s2.o n2, zI_sI, z2_at]
        · rw [s2.o n2, zI_sI, z2_k _ _ _ hj, f1.o n2]
      · rw [if_neg cc, bn_er, p1]
        have hne : ¬ iI ((c % v : Nat) : Int) = 0 := by rw [show (0 : Int32) = iI 0 from rfl, iI_eq ⟨by omega, by omega⟩ ⟨by decide, by decide⟩]; omega
        rw [if_neg hne]
        obtain ⟨h5, g1, g2, g3, g4⟩ := fail_c z3 4
        refine CRt.er (h' := h5) ?_ ((f1.tr g2).mono (by simp)) g3 g4
        refine (zc_of g1 _).trans ?_
        rfl
theorem hOf_c {d n k : Nat} {st : Bool} {h : Zh} (hk : zK h d = 0) (h3 : zI h d 3 = iI k) (h6 : zI h d 6 = iI (bI st)) (hn : n ≤ 12) (hk5 : k ≤ 5) (hkn : k ≤ n) : fX0_handsOf d (iI n) h = some (jI (hnd n k (!st)), h) := by
  have h1 := hnd_pos n (by omega) k (by omega) hkn
  have h2 := (ff_ok n (by omega) k (by omega)).2 hkn
  unfold fX0_handsOf hnd
  cases st
  · have e0 := fX0_choose_eq (n := n) (k := k) (by omega) (by omega) h
    have h6' : zI h d 6 = iI 0 := h6
    have e1 : (((pch n k).toNat : Nat) : Int) = pch n k := Int.toNat_of_nonneg h1.2.2
    simp (maxSteps := 1000000) (disch := (first | assumption | exact ne_b rfl | omega)) only [↓reduceIte, ↓zlet_eq, ↓bdR_sI, ↓bdR_sJ, ↓bdR_aI, zc2_some, Option.bind_some, ↓si_m1, ↓si_m2, ↓si_m3, iI_lit, iI_add, iI_sub, iI_mul, leT, leF, ltT, ltF, eqT, eqF, zinT, clI, Int.toNat_natCast, Int.reduceToNat, tN1, tNa, tN0, tNm, if_pos, if_neg, zI_sI, zI_sJ, zI_sR, zJ_sI, zJ_sJ, zJ_sR, zR_sI, zR_sJ, zR_sR, zK_sI, zK_sJ, zK_sR, zL_sI, zL_sJ, zL_sR, zI_aI, zJ_aI, zR_aI, zK_aI, zL_aI, z2_at, z2_a, z2_k, z1_self, z1_ne, true_and, and_true, bIt, bIf, Bool.false_eq_true, Bool.true_eq_false, eq_self, not_true_eq_false, not_false_eq_true, hk, h3, h6', e0]
    show some (jI (pch n k), h) = some (jI (((pch n k).toNat : Nat) : Int), h)
    rw [e1]
  · have e0 := fX0_falling_eq (n := (n : Int)) (k := k) ⟨by omega, by omega⟩ (by omega) h
    have h6' : zI h d 6 = iI 1 := h6
    simp (maxSteps := 1000000) (disch := (first | assumption | exact ne_b rfl | omega)) only [↓reduceIte, ↓zlet_eq, ↓bdR_sI, ↓bdR_sJ, ↓bdR_aI, zc2_some, Option.bind_some, ↓si_m1, ↓si_m2, ↓si_m3, iI_lit, iI_add, iI_sub, iI_mul, leT, leF, ltT, ltF, eqT, eqF, zinT, clI, Int.toNat_natCast, Int.reduceToNat, tN1, tNa, tN0, tNm, if_pos, if_neg, zI_sI, zI_sJ, zI_sR, zJ_sI, zJ_sJ, zJ_sR, zR_sI, zR_sJ, zR_sR, zK_sI, zK_sJ, zK_sR, zL_sI, zL_sJ, zL_sR, zI_aI, zJ_aI, zR_aI, zK_aI, zL_aI, z2_at, z2_a, z2_k, z1_self, z1_ne, true_and, and_true, bIt, bIf, Bool.false_eq_true, Bool.true_eq_false, eq_self, not_true_eq_false, not_false_eq_true, hk, h3, h6', e0]
    show some (jI (pfall n k), h) = some (jI ((ff n k : Nat) : Int), h)
    rw [h2.2]
theorem hnd_R {n k : Nat} (hn : n ≤ 12) (hk : k ≤ 5) : ∀ b, hnd n k b ≤ 95040 := by
  have a : ∀ n : Nat, n < 13 → ∀ k : Nat, k < 6 → hnd n k true ≤ 95040 ∧ hnd n k false ≤ 95040 := by decide +kernel
  intro b
  cases b
  · exact (a n (by omega) k (by omega)).2
  · exact (a n (by omega) k (by omega)).1
theorem cmp2000 {x : Nat} (h : x ≤ 95040) : (lg_cmp (jI (x : Int)) (2000 : Int64) ≤ 0) ↔ x ≤ 2000 := by
  have := si_cmp0 (a := (x : Int)) (b := 2000) ⟨by omega, by omega⟩ ⟨by decide, by decide⟩
  rw [← Int32.not_lt, show (2000 : Int64) = jI 2000 from rfl, this]
  omega
theorem way94 {g h : Zh} {tx : Nat → Int} {n p dk : Nat} (q : RD h tx n p) (hdk : dk = 14 ∨ dk = 20) : ∃ h', jX7_readWay_94 g 2 dk h = some (iI 1, h') ∧ Fm [2, dk] h h' ∧ RD h' tx n (oN tx n p (isw tx n p 8)) ∧ zI h' dk 8 = iI (bI (isw tx n p 8)) ∧ ∀ j, j ≠ 8 → zI h' dk j = zI h dk j := by
  have n2 : dk ∉ [2] := by simp; omega
  have e1 := is_c (s := 8) q (by decide)
  have f1 : Fm [dk] h (zsI h dk 8 (iI (bI (isw tx n p 8)))) := Fm_sI _ _ _ (by simp)
  have q1 := q.fm f1 (by simp; omega) (by simp; omega)
  have v8 : zI (zsI h dk 8 (iI (bI (isw tx n p 8)))) dk 8 = iI (bI (isw tx n p 8)) := by rw [zI_sI, z2_at]
  have vj : ∀ j, j ≠ 8 → zI (zsI h dk 8 (iI (bI (isw tx n p 8)))) dk j = zI h dk j := fun j hj => by rw [zI_sI, z2_k _ _ _ hj]
  have ee : jX7_readWay_94 g 2 dk h = zlet (zsI h dk 8 (iI (bI (isw tx n p 8)))) fun h15 => if (zI h15 dk 8) = 0 then some ((1 : Int32), h15) else (fX7_step 2 h15).bind fun h17 => some ((1 : Int32), h17) := by
    unfold jX7_readWay_94
    refine (zc_of e1 _).trans (if_pos ?_)
    cases isw tx n p 8
    · exact Or.inl rfl
    · exact Or.inr rfl
  rw [ee, zlet_eq, v8]
  generalize zsI h dk 8 (iI (bI (isw tx n p 8))) = h2 at *
  unfold oN
  cases e : isw tx n p 8
  · rw [e] at v8
    exact ⟨h2, rfl, f1.mono (by simp), q1, v8, vj⟩
  · rw [e] at v8
    obtain ⟨h3, s1, s2, s3⟩ := step_c q1
    exact ⟨h3, bd_of s1 _, (f1.mono (by simp)).tr (s2.mono (by simp)), s3, by rw [s2.o n2]; exact v8, fun j hj => by rw [s2.o n2]; exact vj j hj⟩
theorem way80 {g h : Zh} {tx : Nat → Int} {n p dk : Nat} (hd : Bool) (q : RD h tx n p) (hdk : dk = 14 ∨ dk = 20) (hk : zK g dk = 0) : ∃ h', jX7_readWay_80 g 2 dk (iI (bI hd)) dk h = some (iI 1, h') ∧ Fm [2, dk] h h' ∧ RD h' tx n (oN tx n (oN tx n p hd) (isw tx n (oN tx n p hd) 8)) ∧ zI h' dk 7 = iI (bI hd) ∧ zI h' dk 8 = iI (bI (isw tx n (oN tx n p hd) 8)) ∧ ∀ j, j ≠ 7 → j ≠ 8 → zI h' dk j = zI h dk j := by
  have n2 : dk ∉ [2] := by simp; omega
  have f1 : Fm [dk] h (zsI h dk 7 (iI (bI hd))) := Fm_sI _ _ _ (by simp)
  have q1 := q.fm f1 (by simp; omega) (by simp; omega)
  have v8 : zI (zsI h dk 7 (iI (bI hd))) dk 7 = iI (bI hd) := by rw [zI_sI, z2_at]
  have vj : ∀ j, j ≠ 7 → zI (zsI h dk 7 (iI (bI hd))) dk j = zI h dk j := fun j hj => by rw [zI_sI, z2_k _ _ _ hj]
  have hb : iI (bI hd) = 0 ∨ iI (bI hd) = 1 := by
    cases hd
    · exact Or.inl rfl
    · exact Or.inr rfl
  unfold jX7_readWay_80
  rw [if_pos hk, if_pos hb, zlet_eq, v8]
  generalize zsI h dk 7 (iI (bI hd)) = h2 at *
  cases hd
  · obtain ⟨h3, l1, l2, l3, l4, l5⟩ := way94 (g := g) q1 hdk
    refine ⟨h3, ?_, (f1.mono (by simp)).tr l2, l3, by rw [l5 7 (by decide)]; exact v8, l4, fun j h7 h8 => by rw [l5 j h8]; exact vj j h7⟩
    rw [if_pos (by decide)]
    exact l1
  · obtain ⟨h4, s1, s2, s3⟩ := step_c q1
    obtain ⟨h3, l1, l2, l3, l4, l5⟩ := way94 (g := g) s3 hdk
    refine ⟨h3, ?_, (f1.mono (by simp)).tr ((s2.mono (by simp)).tr l2), l3, by rw [l5 7 (by decide), s2.o n2]; exact v8, l4, fun j h7 h8 => by rw [l5 j h8, s2.o n2]; exact vj j h7⟩
    rw [if_neg (by decide)]
    exact (bd_of s1 _).trans l1
def pWy (tx : Nat → Int) (n c k p : Nat) : PR (Bool × Bool × Bool) := bn (bn (cW tx n c k p) (pS tx n)) fun st p => bn (pX tx n st p) fun w p => rt (st, w) p
theorem way32 {g h : Zh} {tx : Nat → Int} {n p dk c k : Nat} {st : Bool} (q : RD h tx n p) (hdk : dk = 14 ∨ dk = 20) (hkg : zK g dk = 0) (hk : zK h dk = 0) (h0 : zI h dk 0 = iI c) (h3 : zI h dk 3 = iI k) (h6 : zI h dk 6 = iI (bI st)) (hn : c ≤ 12) (hk5 : k ≤ 5) (hkn : k ≤ c) : CRt (jX7_readWay_32 g 2 dk h) h [2, dk] 0 (bn (bn (if hnd c k (!st) ≤ 2000 then rt st p else er 7 (skp tx n p)) (pS tx n)) fun st p => bn (pX tx n st p) fun w p => rt (st, w) p : PR (Bool × Bool × Bool)) (fun a p' w h' => w = iI 1 ∧ RD h' tx n p' ∧ zI h' dk 7 = iI (bI a.2.1) ∧ zI h' dk 8 = iI (bI a.2.2) ∧ a.1 = st ∧ ∀ j, j ≠ 7 → j ≠ 8 → zI h' dk j = zI h dk j) := by
  have n2 : dk ∉ [2] := by simp; omega
  have e1 := hOf_c hk h3 h6 hn hk5 hkn
  have hcm := cmp2000 (hnd_R hn hk5 (!st))
  unfold jX7_readWay_32
  rw [h0, e1, zc2_some]
  by_cases c1 : hnd c k (!st) ≤ 2000
  · rw [if_pos c1, if_pos (hcm.mpr c1), bn_rt]
    unfold pS
    rw [bn_rt]
    obtain ⟨h4, s1, s2, s3⟩ := step_c q
    rw [s1, Option.bind_some, s2.o n2, h6]
    unfold pX
    rw [bn_rt]
    have key : ∀ hd, (!st && isw tx n (tkN tx n p) 7) = hd → CRt (jX7_readWay_80 g 2 dk (iI (bI hd)) dk h4) h [2, dk] 0 (rt (st, (hd, isw tx n (oN tx n (tkN tx n p) hd) 8)) (oN tx n (oN tx n (tkN tx n p) hd) (isw tx n (oN tx n (tkN tx n p) hd) 8)) : PR (Bool × Bool × Bool)) (fun a p' w h' => w = iI 1 ∧ RD h' tx n p' ∧ zI h' dk 7 = iI (bI a.2.1) ∧ zI h' dk 8 = iI (bI a.2.2) ∧ a.1 = st ∧ ∀ j, j ≠ 7 → j ≠ 8 → zI h' dk j = zI h dk j) := by
      intro hd _
      obtain ⟨h5, l1, l2, l3, l4, l5, l6⟩ := way80 (g := g) hd s3 hdk hkg
      exact CRt.rt l1 ((s2.mono (by simp)).tr l2) ⟨rfl, l3, l4, l5, rfl, fun j h7 h8 => by rw [l6 j h7 h8, s2.o n2]⟩
    have e7 := is_c (s := 7) s3 (by decide)
    cases st
    · rw [if_pos (by decide), e7, zc2_some]
      cases e : isw tx n (tkN tx n p) 7
      · exact key false (by rw [e]; rfl)
      · exact key true (by rw [e]; rfl)
    · rw [if_neg (by decide)]
      exact key false rfl
  · rw [if_neg c1, if_neg (fun z => c1 (hcm.mp z)), bn_er, bn_er]
    obtain ⟨h5, g1, g2, g3, g4⟩ := fail_c q 7
    refine CRt.er (h' := h5) ?_ (g2.mono (by simp)) g3 g4
    refine (zc_of g1 _).trans ?_
    rfl
theorem readWay_c {h : Zh} {tx : Nat → Int} {n p dk c k : Nat} (q : RD h tx n p) (hdk : dk = 14 ∨ dk = 20) (hk : zK h dk = 0) (h0 : zI h dk 0 = iI c) (h3 : zI h dk 3 = iI k) (hn : c ≤ 12) (hk5 : k ≤ 5) (hkn : k ≤ c) : CRt (fX7_readWay 2 dk h) h [2, dk] 0 (pWy tx n c k p) (fun a p' w h' => w = iI 1 ∧ RD h' tx n p' ∧ zI h' dk 6 = iI (bI a.1) ∧ zI h' dk 7 = iI (bI a.2.1) ∧ zI h' dk 8 = iI (bI a.2.2) ∧ ∀ j, j ≠ 6 → j ≠ 7 → j ≠ 8 → zI h' dk j = zI h dk j) := by
  have k2 := sK2 q.1
  have e1 := is_c (s := 5) q (by decide)
  have e6 : fX7_readWay 2 dk h = zlet (zsI h dk 6 (iI (bI (isw tx n p 5)))) fun h5 => if (zI h5 dk 6) = 0 then zc2 (fX7_is 2 6 h5) fun v25 h24 => if v25 = 0 then zc2 (fX7_fail 2 ((1 : Int32)) h24) fun v27 h26 => if v27 = 0 ∨ v27 = 1 then some (v27, h26) else none else jX7_readWay_32 h 2 dk h24 else jX7_readWay_32 h 2 dk h5 := by
    unfold fX7_readWay
    rw [zlet_eq, if_pos k2]
    refine (zc_of e1 _).trans ?_
    rw [if_pos hk]
    refine if_pos ?_
    cases isw tx n p 5
    · exact Or.inl rfl
    · exact Or.inr rfl
  have f1 : Fm [dk] h (zsI h dk 6 (iI (bI (isw tx n p 5)))) := Fm_sI _ _ _ (by simp)
  have q1 := q.fm f1 (by simp; omega) (by simp; omega)
  have v6 : zI (zsI h dk 6 (iI (bI (isw tx n p 5)))) dk 6 = iI (bI (isw tx n p 5)) := by rw [zI_sI, z2_at]
  have vj : ∀ j, j ≠ 6 → zI (zsI h dk 6 (iI (bI (isw tx n p 5)))) dk j = zI h dk j := fun j hj => by rw [zI_sI, z2_k _ _ _ hj]
  have v0 := (vj 0 (by decide)).trans h0
  have v3 := (vj 3 (by decide)).trans h3
  have kk : zK (zsI h dk 6 (iI (bI (isw tx n p 5)))) dk = 0 := hk
  rw [e6, zlet_eq, v6]
  generalize zsI h dk 6 (iI (bI (isw tx n p 5))) = h2 at *
  have fin : CRt (jX7_readWay_32 h 2 dk h2) h [2, dk] 0 (bn (bn (if hnd c k (!isw tx n p 5) ≤ 2000 then rt (isw tx n p 5) p else er 7 (skp tx n p)) (pS tx n)) fun st p => bn (pX tx n st p) fun w p => rt (st, w) p : PR (Bool × Bool × Bool)) (fun a p' w h' => w = iI 1 ∧ RD h' tx n p' ∧ zI h' dk 6 = iI (bI a.1) ∧ zI h' dk 7 = iI (bI a.2.1) ∧ zI h' dk 8 = iI (bI a.2.2) ∧ ∀ j, j ≠ 6 → j ≠ 7 → j ≠ 8 → zI h' dk j = zI h dk j) := by
    obtain ⟨w, h3, g1, g2, g3⟩ := way32 (g := h) (st := isw tx n p 5) q1 hdk hk kk v0 v3 v6 hn hk5 hkn
    refine ⟨w, h3, g1, (f1.mono (by simp)).tr g2, ?_⟩
    rcases g3 with g3 | ⟨a, y, z1, z2, z3, z4, z5, z6, z7⟩
    · exact Or.inl g3
    · exact Or.inr ⟨a, y, z1, z2, z3, by rw [z7 6 (by decide) (by decide), z6]; exact v6, z4, z5, fun j a6 a7 a8 => by rw [z7 j a7 a8]; exact vj j a6⟩
  unfold pWy cW
  cases e : isw tx n p 5
  · rw [e] at fin v6
    rw [if_pos (by decide)]
    have e7 := is_c (s := 6) q1 (by decide)
    rw [e7, zc2_some]
    cases e8 : isw tx n p 6
    · rw [if_pos (by decide), if_neg (by simp), bn_er, bn_er]
      obtain ⟨h5, g1, g2, g3, g4⟩ := fail_c q1 1
      refine CRt.er (h' := h5) ?_ ((f1.mono (by simp)).tr (g2.mono (by simp))) g3 g4
      refine (zc_of g1 _).trans ?_
      rfl
    · rw [if_neg (by decide), if_pos (by simp)]
      exact fin
  · rw [e] at fin v6
    rw [if_neg (by decide), if_pos (by simp)]
    exact fin
