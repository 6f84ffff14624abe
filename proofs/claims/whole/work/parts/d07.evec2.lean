/-! the class's reader: an evening's line, a line, the text -/
theorem even152 {g h : Zh} {ts x y m el : Nat} (sg : St g) (s : St h) (hts : ts = 13 ∨ ts = 19) (r4 : zR h 2 4 = some ts) (hel : el < 9) (l2 : zI h (ts + 3) 2 = iI el) : jX7_readEvening_152 g 2 (iI x) (iI y) (iI m) h = some (iI 1, zsI (zsI (zsI h (ts + 4) el (iI x)) (ts + 5) el (iI ((y + m : Nat) : Int))) (ts + 3) 2 (iI ((el + 1 : Nat) : Int))) := by
  obtain ⟨kt, -, -, -, -, -, -, k3, -⟩ := tdS sg hts
  obtain ⟨-, -, -, rt4, -⟩ := tdS s hts
  have e1 : iI (y : Int) + iI (m : Int) = iI ((y + m : Nat) : Int) := by
    rw [iI_add]
    exact congrArg iI (by omega)
  unfold jX7_readEvening_152
  rw [r4, Option.bind_some, if_pos kt, rt4, Option.bind_some, if_pos k3, e1, add_c s hts (by omega) l2, Option.bind_some]
  rfl
theorem CS.ev {h h5 : Zh} {ts : Nat} {tx : Nat → Int} {n p p4 m : Nat} {S : PS} {c s : Nat → Nat} (cs : CS h ts tx n p S) (f : Fm [2, 12] h h5) (q5 : RD h5 tx n p4) : CS (zsI (zsI (zsI h5 (ts + 4) (Pel S) (iI (hix (Ptk S) c))) (ts + 5) (Pel S) (iI (erw (Ptk S) s m))) (ts + 3) 2 (iI ((Pel S + 1 : Nat) : Int))) ts tx n p4 (addE S c s m) := by
  obtain ⟨q, hts, r4, bg, dk, t3, ru, l2, l3, ev⟩ := cs
  have gF : Fm [ts + 3, ts + 4, ts + 5] h5 (zsI (zsI (zsI h5 (ts + 4) (Pel S) (iI (hix (Ptk S) c))) (ts + 5) (Pel S) (iI (erw (Ptk S) s m))) (ts + 3) 2 (iI ((Pel S + 1 : Nat) : Int))) := ((Fm_sI _ _ _ (by simp)).tr (Fm_sI _ _ _ (by simp))).tr (Fm_sI _ _ _ (by simp))
  have v3 : zI (zsI (zsI (zsI h5 (ts + 4) (Pel S) (iI (hix (Ptk S) c))) (ts + 5) (Pel S) (iI (erw (Ptk S) s m))) (ts + 3) 2 (iI ((Pel S + 1 : Nat) : Int))) (ts + 3) 2 = iI ((Pel S + 1 : Nat) : Int) := by rw [zI_sI, z2_at]
  have v3j : zI (zsI (zsI (zsI h5 (ts + 4) (Pel S) (iI (hix (Ptk S) c))) (ts + 5) (Pel S) (iI (erw (Ptk S) s m))) (ts + 3) 2 (iI ((Pel S + 1 : Nat) : Int))) (ts + 3) 3 = zI h5 (ts + 3) 3 := by rw [zI_sI, z2_k _ _ _ (by decide), zI_sI, z2_a _ _ _ _ (by omega), zI_sI, z2_a _ _ _ _ (by omega)]
  have v4 : zI (zsI (zsI (zsI h5 (ts + 4) (Pel S) (iI (hix (Ptk S) c))) (ts + 5) (Pel S) (iI (erw (Ptk S) s m))) (ts + 3) 2 (iI ((Pel S + 1 : Nat) : Int))) (ts + 4) (Pel S) = iI (hix (Ptk S) c) := by rw [zI_sI, z2_a _ _ _ _ (by omega), zI_sI, z2_a _ _ _ _ (by omega), zI_sI, z2_at]
  have v4j : ∀ j, j ≠ Pel S → zI (zsI (zsI (zsI h5 (ts + 4) (Pel S) (iI (hix (Ptk S) c))) (ts + 5) (Pel S) (iI (erw (Ptk S) s m))) (ts + 3) 2 (iI ((Pel S + 1 : Nat) : Int))) (ts + 4) j = zI h5 (ts + 4) j := fun j hj => by rw [zI_sI, z2_a _ _ _ _ (by omega), zI_sI, z2_a _ _ _ _ (by omega), zI_sI, z2_k _ _ _ hj]
  have v5 : zI (zsI (zsI (zsI h5 (ts + 4) (Pel S) (iI (hix (Ptk S) c))) (ts + 5) (Pel S) (iI (erw (Ptk S) s m))) (ts + 3) 2 (iI ((Pel S + 1 : Nat) : Int))) (ts + 5) (Pel S) = iI (erw (Ptk S) s m) := by rw [zI_sI, z2_a _ _ _ _ (by omega), zI_sI, z2_at]
  have v5j : ∀ j, j ≠ Pel S → zI (zsI (zsI (zsI h5 (ts + 4) (Pel S) (iI (hix (Ptk S) c))) (ts + 5) (Pel S) (iI (erw (Ptk S) s m))) (ts + 3) 2 (iI ((Pel S + 1 : Nat) : Int))) (ts + 5) j = zI h5 (ts + 5) j := fun j hj => by rw [zI_sI, z2_a _ _ _ _ (by omega), zI_sI, z2_k _ _ _ hj, zI_sI, z2_a _ _ _ _ (by omega)]
  generalize zsI (zsI (zsI h5 (ts + 4) (Pel S) (iI (hix (Ptk S) c))) (ts + 5) (Pel S) (iI (erw (Ptk S) s m))) (ts + 3) 2 (iI ((Pel S + 1 : Nat) : Int)) = h6 at *
  have o6 : ∀ x, x ∉ [ts + 3, ts + 4, ts + 5] → x ∉ [2, 12] → ∀ j, zI h6 x j = zI h x j := fun x h1 h2 j => by rw [gF.o h1, f.o h2]
  refine ⟨q5.fm gF (by simp <;> omega) (by simp <;> omega), hts, by rw [gF.R, f.R]; exact r4, ?_, fun b => ?_, ?_, fun i hi => ?_, v3, ?_, fun e he => ?_⟩
  · rw [o6 ts (by simp) (by simp <;> omega)]; exact bg
  · exact ((dk b).fm f (by simp <;> omega)).fm gF (by simp)
  · rw [o6 ts (by simp) (by simp <;> omega)]; exact t3
  · rw [o6 (ts + 2) (by simp) (by simp <;> omega), o6 10 (by simp <;> omega) (by simp), o6 11 (by simp <;> omega) (by simp)]
    exact ru i hi
  · rw [v3j, f.o (by simp <;> omega)]; exact l3
  · have he' : e < Pel S + 1 := he
    show zI h6 (ts + 4) e = iI (hix (Ptk S) (if e = Pel S then c else Pec S e)) ∧ zI h6 (ts + 5) e = iI (erw (Ptk S) (if e = Pel S then s else Pes S e) (if e = Pel S then m else Pet S e))
    by_cases ce : e = Pel S
    · rw [if_pos ce, if_pos ce, if_pos ce, ce]
      exact ⟨v4, v5⟩
    · rw [if_neg ce, if_neg ce, if_neg ce, v4j e ce, v5j e ce, f.o (by simp <;> omega), f.o (by simp <;> omega)]
      exact ev e (by omega)
theorem readEvening_c {h : Zh} {ts : Nat} {tx : Nat → Int} {n p : Nat} {S : PS} (cs : CS h ts tx n p S) (ok : PSk n S) : CRt (fX7_readEvening 2 h) h [2, 12, ts + 3, ts + 4, ts + 5] 0 (pE tx n S p) (fun S' p' w h' => w = iI 1 ∧ CS h' ts tx n p' S') := by
  have cs0 := cs
  obtain ⟨q, hts, r4, bg, dk, t3, ru, l2, l3, ev⟩ := cs
  obtain ⟨tk0, -, -, -, el9, -⟩ := ok
  have s := q.1
  have k2 := sK2 s
  obtain ⟨kt, rt1, rt2, rt4, kd, kr, lr, k3, -⟩ := tdS s hts
  have m1 : ts + 1 ∉ [2] := by simp <;> omega
  have m12 : ts + 1 ∉ [2, 12] := by simp <;> omega
  have m12' : ts + 1 ∉ [12] := by simp <;> omega
  unfold fX7_readEvening pE cB
  rw [zlet_eq, if_pos k2, r4, Option.bind_some, if_pos kt, bg]
  cases e : Pbg S
  · obtain ⟨hg, g1, g2, g3, g4⟩ := fail_c q 6
    rw [if_pos (by decide), if_neg (by decide), bn_er, bn_er]
    exact CRt.er ((zc_of g1 _).trans rfl) (g2.mono (by simp)) g3 g4
  · have d := dk e
    have tok := tk0 e
    obtain ⟨bn4, bn12, bu1, bu4, bnu, bk2, bk5, bkn, bp1, bp2, bpk, bH, bsp, bs1, bs4, bT1, bT16, bR1, bR2, bH1, bff, bff1⟩ := tok.b
    rw [if_neg (by decide), if_pos rfl, Option.bind_some, if_pos kt, rt4, Option.bind_some, if_pos k3, l2]
    by_cases c : Pel S < 9
    · have c' : iI (Pel S : Int) < (9 : Int32) := by rw [show (9 : Int32) = iI 9 from rfl, iI_lt ⟨by omega, by omega⟩ ⟨by decide, by decide⟩]; omega
      rw [if_pos c, if_pos c', bn_rt]
      show CRt _ _ _ _ (bn (pC tx n (tn (Ptk S)) (tk (Ptk S)) 0 0 (fun _ => 0) (tkN tx n p)) fun c p => bn (pP tx n 11 p) fun _ p => bn (pC tx n (tn (Ptk S)) (tsh (Ptk S)) 0 0 (fun _ => 0) p) fun s p => bn (pI tx n (Ptk S) p) fun m p => rt (addE S c s m) p) _
      obtain ⟨h4, s1, s2, s3⟩ := step_c q
      have d4 := d.fm s2 m1
      have R4 : zR h4 = zR h := s2.R
      rw [s1, Option.bind_some, R4, r4, Option.bind_some, if_pos kt, rt1, Option.bind_some, if_pos kd, d4.f3]
      refine cr_st s2 (by simp) ?_
      refine cr_bn (readCards_c (bd := tn (Ptk S)) (cnt := tk (Ptk S)) s3 hts (by rw [R4]; exact r4) d4.f0 (by omega) bn12 bk5) (by simp) (fun h' _ => ⟨h', by rw [if_pos (by decide)]; rfl, Fm.rf, rfl, rfl⟩) ?_
      intro cc p1 w hA ec ⟨ew, qA, cellA⟩ fA
      subst ew
      obtain ⟨-, cb, cd⟩ := pC_q (by omega) (s3.p.1) cc p1 ec
      have dA := d4.fm fA m12
      have sA := qA.1
      obtain ⟨hB, u1, u2⟩ := handNumber_r (r := 12) tok dA (by omega) (sK12 sA) (sL12 sA) (fun i hi => ⟨cellA i hi, cb i hi⟩) cd
      rw [if_neg (by decide), sR2_7 sA, Option.bind_some, u1, zc2_some]
      refine cr_st u2 (by simp) ?_
      refine cr_bn (pass_c (s := 11) (qA.fm u2 (by decide) (by decide)) (by decide)) (by simp) (fun h' _ => ⟨h', by rw [if_pos (by decide)]; rfl, Fm.rf, rfl, rfl⟩) ?_
      intro _ p2 w hC _ ⟨ew, qC⟩ fC
      subst ew
      have dC := (dA.fm u2 m12').fm fC m1
      have RC : zR hC = zR h := by rw [fC.R, u2.R, fA.R, R4]
      rw [if_neg (by decide), dC.f5]
      refine cr_bn (readCards_c (bd := tn (Ptk S)) (cnt := tsh (Ptk S)) qC hts (by rw [RC]; exact r4) dC.f0 (by omega) bn12 (by omega)) (by simp) (fun h' _ => ⟨h', by rw [if_pos (by decide)]; rfl, Fm.rf, rfl, rfl⟩) ?_
      intro sh p3 w hD es ⟨ew, qD, cellD⟩ fD
      subst ew
      obtain ⟨-, sb, sd⟩ := pC_q (by omega) (qC.p.1) sh p3 es
      have dD := dC.fm fD m12
      have sD := qD.1
      have er := fX0_rowNumber_eq (d := ts + 1) (r := 12) (n := tn (Ptk S)) (a := tsh (Ptk S)) (L := 5) (w := sh) (h := hD) dD.fK (sK12 sD) (sL12 sD) (by decide) dD.f0 bn12 (by omega) (by omega) (fun i hi => ⟨cellD i hi, sb i hi⟩) sd
      have em : iI ((rowN (tn (Ptk S)) sh (tsh (Ptk S)) : Nat) : Int) * iI (tT (Ptk S)) = iI ((rowN (tn (Ptk S)) sh (tsh (Ptk S)) * tT (Ptk S) : Nat) : Int) := by
        rw [iI_mul, Int.natCast_mul]
      rw [if_neg (by decide), sR2_7 sD, Option.bind_some, dD.f5, er, zc2_some, dD.f12, em, zlet_eq, dD.f8]
      have fAll : Fm [2, 12] h hD := (((s2.mono (by simp)).tr fA).tr ((u2.mono (by simp)).tr (fC.mono (by simp)))).tr fD
      have fin : ∀ m p4 h5, RD h5 tx n p4 → Fm [2] hD h5 → CRt (jX7_readEvening_152 h 2 (iI (hix (Ptk S) cc)) (iI ((rowN (tn (Ptk S)) sh (tsh (Ptk S)) * tT (Ptk S) : Nat) : Int)) (iI (m : Nat)) h5) h5 [2, 12, ts + 3, ts + 4, ts + 5] 0 (rt (addE S cc sh m) p4 : PR PS) (fun S' p' w h' => w = iI 1 ∧ CS h' ts tx n p' S') := by
        intro m p4 h5 q5 f5
        have f5' := fAll.tr (f5.mono (by simp))
        have e1 := even152 (g := h) (h := h5) (x := hix (Ptk S) cc) (y := rowN (tn (Ptk S)) sh (tsh (Ptk S)) * tT (Ptk S)) (m := m) (el := Pel S) s q5.1 hts (by rw [f5'.R]; exact r4) c (by rw [f5'.o (by simp <;> omega)]; exact l2)
        refine CRt.rt e1 (((Fm_sI _ _ _ (by simp)).tr (Fm_sI _ _ _ (by simp))).tr (Fm_sI _ _ _ (by simp))) ⟨rfl, ?_⟩
        exact cs0.ev f5' q5
      have e7 := is_c (s := 12) qD (by decide)
      unfold pI
      cases ct : tti (Ptk S)
      · rw [if_pos (by decide), if_neg (fun z => by cases z.1), bn_rt]
        exact fin 0 p3 hD qD Fm.rf
      · rw [if_neg (by decide), e7, zc2_some]
        cases cw : isw tx n p3 12
        · rw [if_pos (by decide), if_neg (fun z => by cases z.2), bn_rt]
          exact fin 0 p3 hD qD Fm.rf
        · obtain ⟨hE, v1, v2, v3⟩ := step_c qD
          have dE := dD.fm v2 m1
          rw [if_neg (by decide), if_pos ⟨rfl, rfl⟩, v1, Option.bind_some, dE.f5]
          refine cr_st v2 (by simp) ?_
          refine cr_bn (readTilts_c (bd := tsh (Ptk S)) v3 (by omega) (by omega)) (by simp) (fun h' _ => ⟨h', by rw [if_neg (by decide)]; rfl, Fm.rf, rfl, rfl⟩) ?_
          intro m p4 w hF _ ⟨ew, mb, qF⟩ fF
          subst ew
          have hm16 : m < 16 := by
            have : 2 ^ tsh (Ptk S) ≤ 2 ^ 4 := Nat.pow_le_pow_right (by decide) bs4
            omega
          rw [if_pos (nneg (by omega)).2]
          exact fin m p4 hF qF (v2.tr fF)
    · have c' : ¬ iI (Pel S : Int) < (9 : Int32) := by rw [show (9 : Int32) = iI 9 from rfl, iI_lt ⟨by omega, by omega⟩ ⟨by decide, by decide⟩]; omega
      rw [if_neg c, if_neg c', bn_er, bn_er]
      obtain ⟨hg, g1, g2, g3, g4⟩ := fail_c q 5
      exact CRt.er ((zc_of g1 _).trans rfl) (g2.mono (by simp)) g3 g4
