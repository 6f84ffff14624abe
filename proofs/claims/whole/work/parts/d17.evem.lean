/-! the model's reader: an evening's line -/
theorem ev117 {g h : Zh} {tx : Nat → Int} {n tr el : Nat} {r : PR Nat} {t0 : Int32} (m : MR tx n h r) (q : RT h tr) (gq : RT g tr) (t6 : zI h tr 6 = iI el) (hx : ∀ v p, r = rt v p → t0 = iI v ∧ el < 9) : ∃ h', jX12_readEvening_117 g 76 t0 h = some h' ∧ FR [tr, tr + 4] h h' ∧ MR tx n h' r ∧ ∀ v p, r = rt v p → zI h' tr 6 = iI ((el + 1 : Nat) : Int) ∧ (∀ i, i ≠ 6 → zI h' tr i = zI h tr i) ∧ zI h' (tr + 4) el = iI v ∧ ∀ i, i ≠ el → zI h' (tr + 4) i = zI h (tr + 4) i := by
  have h101 := q.2.1
  have gk := gq.2.2.1
  rcases r.cs with ⟨x, y, rfl⟩ | ⟨v, p, rfl⟩
  · obtain ⟨-, h9, -⟩ := mr_ei m
    refine ⟨h, ?_, FR.rf, m, fun k p e => (er_rt e).elim⟩
    unfold jX12_readEvening_117
    rw [if_pos (show zI h 76 9 = (5 : Int32) from h9)]
  · obtain ⟨e3, hel⟩ := hx v p rfl
    obtain ⟨s1, rd, h13⟩ := mr_ri m
    have h9 := rd.2.2.1
    have hb := mS_b (tkK tx n p)
    have n9 : ¬ zI h 76 9 = (5 : Int32) := by rw [h9, show (5 : Int32) = iI 5 from rfl, iI_eq ⟨by omega, by omega⟩ ⟨by decide, by decide⟩]; omega
    have ei : iI (el : Int) + (1 : Int32) = iI ((el + 1 : Nat) : Int) := by
      rw [show (1 : Int32) = iI 1 from rfl, iI_add]; rfl
    obtain ⟨-, -, -, g10, g11, g12, g13, g14, -, -, -, -, -, -, gk4, gl4, -⟩ := gq
    obtain ⟨r4, -, -, q10, q11, q12, q13, q14, -⟩ := q
    unfold jX12_readEvening_117
    rw [if_neg n9, r4, Option.bind_some, if_pos gk, q13, Option.bind_some, Option.bind_some, if_pos gk, if_pos gk4, t6, if_pos (by rw [gl4]; exact zin_N hel (by decide)), clN (by omega), zlet_eq, e3]
    have fB : FR [tr, tr + 4] h (zsI h (tr + 4) el (iI v)) := FR.rf.w (by omega) (by simp) _ _
    have mB := m.sI (x := tr + 4) (by omega) (by omega) el (iI v)
    have b1 : zI (zsI h (tr + 4) el (iI v)) (tr + 4) el = iI v := by rw [zI_sI, z2_at]
    have bj : ∀ i, i ≠ el → zI (zsI h (tr + 4) el (iI v)) (tr + 4) i = zI h (tr + 4) i := fun i hi => by rw [zI_sI, z2_k _ _ _ hi]
    have bo : ∀ i, zI (zsI h (tr + 4) el (iI v)) tr i = zI h tr i := fun i => by rw [zI_sI, z2_a _ _ _ _ (by omega)]
    generalize zsI h (tr + 4) el (iI v) = hB at *
    rw [fB.R, r4, Option.bind_some, if_pos gk, zlet_eq, bo, t6, ei]
    refine ⟨_, rfl, fB.w (by omega) (by simp) _ _, mB.sI (by omega) (by omega) _ _, fun v' p' e => ?_⟩
    obtain ⟨z, -⟩ := rt_in e
    rw [← z]
    exact ⟨by rw [zI_sI, z2_at], fun i hi => by rw [zI_sI, z2_k _ _ _ hi, bo], by rw [zI_sI, z2_a _ _ _ _ (by omega)]; exact b1, fun i hi => by rw [zI_sI, z2_a _ _ _ _ (by omega)]; exact bj i hi⟩
theorem readEvening_m {h : Zh} {tx : Nat → Int} {n p tr : Nat} {S : PS} (m : MR tx n h (rt () p)) (hw : isw tx n p 10 = true) (ms : MS h tr tx n S) (ok : PSk n S) : ∃ h', fX12_readEvening 76 h = some h' ∧ FR [tr, tr + 2, tr + 3, tr + 4] h h' ∧ MR tx n h' (pE tx n S p) ∧ ∀ S' y, pE tx n S p = rt S' y → MS h' tr tx n S' := by
  have ms0 := ms
  obtain ⟨q, h0, h1, t5, t6, nm, ev⟩ := ms
  have h101 := q.2.1
  have g76 := sK76 m.1
  have gk := q.2.2.1
  obtain ⟨o1, o2, o3, o4, o5, o6⟩ := ok
  obtain ⟨hA, a1, a2, a3⟩ := begins_m (a := Pel S) (b := 9) m (by rw [isw_1 hw]; decide) q h0 (fun b => ⟨h1 b, o1 b⟩) o5 (by decide) (fun b => by rw [(o2 b).2]; decide)
  have hcb : ∀ a y, bn (cB tx n S (Pel S) 9 p) (pS tx n) = rt a y → Pel S < 9 ∧ Pbg S = true := by
    intro a y e
    unfold cB at e
    split at e
    · split at e
      · exact ⟨by assumption, by assumption⟩
      · exact (er_rt e).elim
    · exact (er_rt e).elim
  have eP : pE tx n S p = bn (bn (cB tx n S (Pel S) 9 p) (pS tx n)) fun _ p => bn (pC tx n (tn (Ptk S)) (tk (Ptk S)) 0 0 (fun _ => 0) p) fun c p => bn (pP tx n 11 p) fun _ p => bn (pC tx n (tn (Ptk S)) (tsh (Ptk S)) 0 0 (fun _ => 0) p) fun s p => bn (pI tx n (Ptk S) p) fun m p => rt (addE S c s m) p := rfl
  rw [eP]
  generalize bn (cB tx n S (Pel S) 9 p) (pS tx n) = r0 at *
  have e0 : fX12_readEvening 76 h = if (zI hA 76 9) = ((5 : Int32)) then some hA else (zR hA 76 4).bind fun r_5 => if zK h r_5 = 11 then zlet (((5 : Int32)) * (zI hA r_5 6)) fun y7 => (zR hA 76 4).bind fun r_8 => if zK h r_8 = 11 then (zR hA r_8 11).bind fun r_10 => (zR hA 76 4).bind fun r_11 => if zK h r_11 = 11 then (zR hA 76 4).bind fun r_13 => if zK h r_13 = 11 then (fX12_readUnlike 76 r_10 y7 (zI hA r_11 2) (zI hA r_13 0) hA).bind fun h15 => (fX12_needs 76 11 h15).bind fun h16 => (zR h16 76 4).bind fun r_17 => if zK h r_17 = 11 then (zR h16 r_17 12).bind fun r_19 => (zR h16 76 4).bind fun r_20 => if zK h r_20 = 11 then (zR h16 76 4).bind fun r_22 => if zK h r_22 = 11 then (fX12_readUnlike 76 r_19 y7 (zI h16 r_20 4) (zI h16 r_22 0) h16).bind fun h24 => (zR h24 76 4).bind fun r_25 => if zK h r_25 = 11 then if (zI h24 r_25 9) = 0 then jX12_readEvening_116 h 76 h24 else zc2 (fX12_eatsWord 76 12 h24) fun v39 h38 => if v39 = 0 then jX12_readEvening_116 h 76 h38 else zc2 (fX12_readPlaces 76 h38) fun v41 h40 => jX12_readEvening_117 h 76 v41 h40 else none else none else none else none else none else none else none else none := by
    unfold fX12_readEvening
    rw [zlet_eq, if_pos g76, q.1, Option.bind_some, if_pos gk, t6, show fX12_begins 76 (iI (Pel S)) (9 : Int32) h = some hA from a1, Option.bind_some]
  rw [e0]
  rcases r0.cs with ⟨x, y, rfl⟩ | ⟨u, p0, rfl⟩
  · obtain ⟨-, h9, -⟩ := mr_ei a3
    rw [if_pos (show zI hA 76 9 = (5 : Int32) from h9)]
    exact ⟨hA, rfl, a2.mono (by simp), mr_sh a3 rfl, fun S' y e => (er_rt e).elim⟩
  · obtain ⟨hel, bg⟩ := hcb u p0 rfl
    have tok := o1 bg
    obtain ⟨bn4, bn12, bu1, bu4, bnu, bk2, bk5, bkn, bp1, bp2, bpk, bH, bsp, bs1, bs4, bT1, bT16, bR1, bR2, bH1, bff, bff1⟩ := tok.b
    obtain ⟨sA, rdA, -⟩ := mr_ri a3
    have h9 := rdA.2.2.1
    have hmb := mS_b (tkK tx n p0)
    have n9 : ¬ zI hA 76 9 = (5 : Int32) := by rw [h9, show (5 : Int32) = iI 5 from rfl, iI_eq ⟨by omega, by omega⟩ ⟨by decide, by decide⟩]; omega
    have msA := ms0.fr a2
    obtain ⟨qA, -, trA, t5A, t6A, nmA, evA⟩ := msA
    obtain ⟨u0, u1, u2, u3, u4, u5, u6, u7, u8⟩ := trA bg
    have e5 : (5 : Int32) * iI (Pel S : Int) = iI ((5 * Pel S : Nat) : Int) := by
      rw [show (5 : Int32) = iI 5 from rfl, iI_mul]
      exact congrArg iI (by omega)
    obtain ⟨-, -, -, q10, q11, q12, q13, q14, k1, l1, k2, l2, k3, l3, k4, l4, k5, l5⟩ := qA
    have R4 : zR hA 76 4 = some tr := by rw [a2.R]; exact q.1
    rw [bn_rt]
    obtain ⟨hB, b1, b2, b3, b4, b5⟩ := readUnlike_m (bd := tn (Ptk S)) (fr := 5 * Pel S) (cnt := tk (Ptk S)) (r1 := tr + 2) a3 (by omega) bn12 (by omega) k2 l2 (by omega) bk5
    rw [bn_rt] at b3 b4
    obtain ⟨hC, c1, c2, c3⟩ := needs_m (s := 11) b3 (by decide)
    have RC : zR hC = zR hA := by rw [c2.R, b2.R]
    have oC : ∀ j, zI hC tr j = zI hA tr j := fun j => by rw [c2.o (by omega) (by simp), b2.o (by omega) (by simp)]
    obtain ⟨hD, d1, d2, d3, d4, d5⟩ := readUnlike_m (bd := tn (Ptk S)) (fr := 5 * Pel S) (cnt := tsh (Ptk S)) (r1 := tr + 3) c3 (by omega) bn12 (by omega) (by rw [c2.K, b2.K]; exact k3) (by rw [c2.L, b2.L]; exact l3) (by omega) (by omega)
    have oD : ∀ j, zI hD tr j = zI hA tr j := fun j => by rw [d2.o (by omega) (by simp), oC]
    have RD' : zR hD = zR hA := by rw [d2.R, RC]
    have t9 : zI hD tr 9 = iI (bI (tti (Ptk S))) := by rw [oD]; exact u8
    have fD : FR [tr, tr + 2, tr + 3, tr + 4] h hD := (a2.mono (by simp)).tr ((b2.mono (by simp)).tr ((c2.mono (by simp)).tr (d2.mono (by simp))))
    have qD : RT hD tr := q.fj fD.1
    rw [if_neg n9, R4, Option.bind_some, if_pos gk, t6A, e5, zlet_eq, Option.bind_some, if_pos gk, q11, Option.bind_some, Option.bind_some, if_pos gk, Option.bind_some, if_pos gk, u3, u1, b1, Option.bind_some, c1, Option.bind_some, RC, R4, Option.bind_some, if_pos gk, q12, Option.bind_some, Option.bind_some, if_pos gk, Option.bind_some, if_pos gk, oC 4, u5, oC 0, u1, d1, Option.bind_some, RD', R4, Option.bind_some, if_pos gk, t9]
    have fin : ∀ (hE : Zh) (w : Int32), FR [] hD hE → MR tx n hE (bn (bn (bn (pC tx n (tn (Ptk S)) (tk (Ptk S)) 0 0 (fun _ => 0) p0) fun _ p => pP tx n 11 p) fun _ p => pC tx n (tn (Ptk S)) (tsh (Ptk S)) 0 0 (fun _ => 0) p) fun _ p => pI tx n (Ptk S) p) → (∀ v y, (bn (bn (bn (pC tx n (tn (Ptk S)) (tk (Ptk S)) 0 0 (fun _ => 0) p0) fun _ p => pP tx n 11 p) fun _ p => pC tx n (tn (Ptk S)) (tsh (Ptk S)) 0 0 (fun _ => 0) p) fun _ p => pI tx n (Ptk S) p) = rt v y → w = iI v) → ∃ h', jX12_readEvening_117 h 76 w hE = some h' ∧ FR [tr, tr + 2, tr + 3, tr + 4] h h' ∧ MR tx n h' (bn (pC tx n (tn (Ptk S)) (tk (Ptk S)) 0 0 (fun _ => 0) p0) fun c p => bn (pP tx n 11 p) fun _ p => bn (pC tx n (tn (Ptk S)) (tsh (Ptk S)) 0 0 (fun _ => 0) p) fun s p => bn (pI tx n (Ptk S) p) fun m p => rt (addE S c s m) p) ∧ ∀ S' y, (bn (pC tx n (tn (Ptk S)) (tk (Ptk S)) 0 0 (fun _ => 0) p0) fun c p => bn (pP tx n 11 p) fun _ p => bn (pC tx n (tn (Ptk S)) (tsh (Ptk S)) 0 0 (fun _ => 0) p) fun s p => bn (pI tx n (Ptk S) p) fun m p => rt (addE S c s m) p) = rt S' y → MS h' tr tx n S' := by
      intro hE w fE mE hx
      have oE : ∀ x, x ≠ 76 → ∀ j, zI hE x j = zI hD x j := fun x hx j => fE.o hx (by simp) j
      obtain ⟨h', g1, g2, g3, g4⟩ := ev117 (g := h) (el := Pel S) (t0 := w) mE (qD.fj fE.1) q (by rw [oE tr (by omega), oD]; exact t6A) (fun v y e => ⟨hx v y e, hel⟩)
      refine ⟨h', g1, fD.tr ((fE.mono (by simp)).tr (g2.mono (by simp))), mr_sh g3 ?_, fun S' y e => ?_⟩
      · rcases (pC tx n (tn (Ptk S)) (tk (Ptk S)) 0 0 (fun _ => 0) p0).cs with ⟨x, y, e⟩ | ⟨c, p1, e⟩
        · rw [e]; rfl
        · rw [e]
          simp only [bn_rt]
          rcases (pP tx n 11 p1).cs with ⟨x, y, e⟩ | ⟨c', p2, e⟩
          · rw [e]; rfl
          · rw [e]
            simp only [bn_rt]
            rcases (pC tx n (tn (Ptk S)) (tsh (Ptk S)) 0 0 (fun _ => 0) p2).cs with ⟨x, y, e⟩ | ⟨s, p3, e⟩
            · rw [e]; rfl
            · rw [e]
              simp only [bn_rt]
              rcases (pI tx n (Ptk S) p3).cs with ⟨x, y, e⟩ | ⟨mm, p4, e⟩
              · rw [e]; rfl
              · rw [e]; rfl
      · rcases (pC tx n (tn (Ptk S)) (tk (Ptk S)) 0 0 (fun _ => 0) p0).cs with ⟨x, z, ec⟩ | ⟨c, p1, ec⟩
        · rw [ec] at e; exact (er_rt e).elim
        · rw [ec] at e b4 d4 g4
          simp only [bn_rt] at e d4 g4
          rcases (pP tx n 11 p1).cs with ⟨x, z, ep⟩ | ⟨c', p2, ep⟩
          · rw [ep] at e; exact (er_rt e).elim
          · rw [ep] at e d4 g4
            simp only [bn_rt] at e d4 g4
            rcases (pC tx n (tn (Ptk S)) (tsh (Ptk S)) 0 0 (fun _ => 0) p2).cs with ⟨x, z, es⟩ | ⟨s, p3, es⟩
            · rw [es] at e; exact (er_rt e).elim
            · rw [es] at e d4 g4
              simp only [bn_rt] at e g4
              rcases (pI tx n (Ptk S) p3).cs with ⟨x, z, ei⟩ | ⟨mm, p4, ei⟩
              · rw [ei] at e; exact (er_rt e).elim
              · rw [ei] at e g4
                rw [bn_rt] at e
                obtain ⟨eS, -⟩ := rt_in e
                obtain ⟨r6, rj, r4, rk⟩ := g4 mm p4 rfl
                have cB := b4 c p1 rfl
                have cD := d4 s p3 rfl
                have oG : ∀ x, x ≠ tr → x ≠ tr + 4 → 101 ≤ x → ∀ j, zI h' x j = zI hD x j := fun x x1 x2 x3 j => by rw [g2.o (by omega) (by simp [x1, x2]), oE x (by omega)]
                have oG2 : ∀ j, zI h' (tr + 2) j = zI hB (tr + 2) j := fun j => by rw [oG (tr + 2) (by omega) (by omega) (by omega), d2.o (by omega) (by simp), c2.o (by omega) (by simp)]
                have oG1 : ∀ j, zI h' (tr + 1) j = zI hA (tr + 1) j := fun j => by rw [oG (tr + 1) (by omega) (by omega) (by omega), d2.o (by omega) (by simp), c2.o (by omega) (by simp), b2.o (by omega) (by simp)]
                have oJ5 : ∀ j, zJ h' (tr + 5) j = zJ hA (tr + 5) j := fun j => by rw [g2.oJ (by omega) (by simp), fE.oJ (by omega) (by simp), d2.oJ (by omega) (by simp), c2.oJ (by omega) (by simp), b2.oJ (by omega) (by simp)]
                have oT : ∀ j, j ≠ 6 → zI h' tr j = zI hA tr j := fun j hj => by rw [rj j hj, oE tr (by omega), oD]
                have o3C : ∀ j, j < 5 * Pel S → zI hD (tr + 3) j = zI hA (tr + 3) j := fun j hj => by rw [d5 j hj, c2.o (by omega) (by simp), b2.o (by omega) (by simp)]
                rw [← eS]
                refine ⟨(qD.fj fE.1).fj g2.1, fun b => ?_, fun b => ?_, ?_, r6, fun i hi => ?_, fun e he => ?_⟩
                · have b' : Pbg S = false := b
                  rw [bg] at b'; cases b'
                · have u0' : zK h' tr = 11 := ((qD.fj fE.1).fj g2.1).2.2.1
                  exact ⟨u0', by rw [oT 0 (by decide)]; exact u1, by rw [oT 1 (by decide)]; exact u2, by rw [oT 2 (by decide)]; exact u3, by rw [oT 3 (by decide)]; exact u4, by rw [oT 4 (by decide)]; exact u5, by rw [oT 7 (by decide)]; exact u6, by rw [oT 8 (by decide)]; exact u7, by rw [oT 9 (by decide)]; exact u8⟩
                · rw [oT 5 (by decide)]; exact t5A
                · rw [oG1, oJ5]; exact nmA i hi
                · have he' : e < Pel S + 1 := he
                  show (∀ i, i < tk (Ptk S) → zI h' (tr + 2) (5 * e + i) = iI (((if e = Pel S then c else Pec S e) i : Nat) : Int)) ∧ (∀ i, i < tsh (Ptk S) → zI h' (tr + 3) (5 * e + i) = iI (((if e = Pel S then s else Pes S e) i : Nat) : Int)) ∧ zI h' (tr + 4) e = iI ((if e = Pel S then mm else Pet S e : Nat) : Int)
                  by_cases ce : e = Pel S
                  · rw [if_pos ce, if_pos ce, if_pos ce, ce]
                    exact ⟨fun i hi => by rw [oG2]; exact cB i hi, fun i hi => by rw [oG (tr + 3) (by omega) (by omega) (by omega)]; exact cD i hi, r4⟩
                  · obtain ⟨v1, v2, v3⟩ := evA e (by omega)
                    rw [if_neg ce, if_neg ce, if_neg ce]
                    refine ⟨fun i hi => ?_, fun i hi => ?_, ?_⟩
                    · rw [oG2, b5 _ (by omega)]; exact v1 i hi
                    · rw [oG (tr + 3) (by omega) (by omega) (by omega), o3C _ (by omega)]; exact v2 i hi
                    · rw [rk e ce, oE (tr + 4) (by omega), d2.o (by omega) (by simp), c2.o (by omega) (by simp), b2.o (by omega) (by simp)]; exact v3
    generalize hrD : (bn (bn (pC tx n (tn (Ptk S)) (tk (Ptk S)) 0 0 (fun _ => 0) p0) fun _ p => pP tx n 11 p) fun _ p => pC tx n (tn (Ptk S)) (tsh (Ptk S)) 0 0 (fun _ => 0) p) = rD at *
    cases ct : tti (Ptk S)
    · rw [if_pos (by decide)]
      have eI : (bn rD fun _ p => pI tx n (Ptk S) p) = bn rD fun _ p => rt 0 p := by
        rcases rD.cs with ⟨x, y, rfl⟩ | ⟨s, y, rfl⟩
        · rfl
        · rw [bn_rt, bn_rt]
          unfold pI
          rw [ct, if_neg (fun z => by cases z.1)]
      refine fin hD 0 FR.rf (mr_sh d3 ?_) (fun v y e => ?_)
      · rw [eI]
        rcases rD.cs with ⟨x, y, rfl⟩ | ⟨s, y, rfl⟩ <;> rfl
      · rw [eI] at e
        rcases rD.cs with ⟨x, y, rfl⟩ | ⟨s, y, rfl⟩
        · exact (er_rt e).elim
        · obtain ⟨z, -⟩ := rt_in e
          rw [← z]; rfl
    · rw [if_neg (by decide)]
      rcases et_m (s := 12) d3 (by decide) with ⟨cc, hE, e1, f1, m1⟩ | ⟨s, p3, hE, rr, hw2, e1, f1, m1⟩
      · rw [e1, zc2_some, if_pos rfl]
        have eI : (bn rD fun _ p => pI tx n (Ptk S) p) = bn rD fun _ p => rt 0 p := by
          rcases rD.cs with ⟨x, y, rfl⟩ | ⟨s, y, rfl⟩
          · rfl
          · rw [ew_r] at cc
            rw [bn_rt, bn_rt]
            unfold pI
            rw [cc, if_neg (fun z => by cases z.2)]
        refine fin hE 0 f1 (mr_sh m1 ?_) (fun v y e => ?_)
        · rw [eI]
          rcases rD.cs with ⟨x, y, rfl⟩ | ⟨s, y, rfl⟩ <;> rfl
        · rw [eI] at e
          rcases rD.cs with ⟨x, y, rfl⟩ | ⟨s, y, rfl⟩
          · exact (er_rt e).elim
          · obtain ⟨z, -⟩ := rt_in e
            rw [← z]; rfl
      · rw [e1, zc2_some, if_neg (by decide)]
        obtain ⟨w, hF, g1, g2, g3, g4⟩ := readPlaces_m (bd := tsh (Ptk S)) m1 (qD.fj f1.1) (by rw [f1.o (by omega) (by simp), oD]; exact u5) (by omega) (by omega)
        rw [g1, zc2_some]
        have eI : (bn rD fun _ p => pI tx n (Ptk S) p) = pL tx n (tsh (Ptk S)) (n + 1) 0 (tkN tx n p3) := by
          rw [rr, bn_rt]
          unfold pI
          rw [if_pos ⟨ct, hw2⟩]
        exact fin hF w (f1.tr g2) (by rw [eI]; exact g3) (fun v y e => by rw [eI] at e; exact g4 v y e)
