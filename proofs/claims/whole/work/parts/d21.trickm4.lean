/-! a trick is told: the model's side -/
theorem KM.red {h h' : Zh} {v : Vw} {tr ra f q : Nat} (m : KM h v tr ra) (s : St h') (fc : Fc (fun i => i = 76) h h') (e : ∀ j, 14 < j → zI h' 76 j = zI h 76 j) (r3 : zR h' 76 3 = zR h 76 3) (h6 : zI h' 76 6 = iI 0) (h13 : zI h' 76 13 = iI f) (htr : tr < zN h) (hra : ra < zN h) : KM h' (v.flt f q) tr ra := by
  obtain ⟨a1, a2, a3, a4, a5, a6⟩ := m
  have hN := a1.1
  have o : ∀ i, i < zN h → i ≠ 76 → zI h' i = zI h i := fun i h1 h2 => fc.I h1 h2
  refine ⟨s, h6, fun j hj => absurd hj (Nat.not_lt_zero _), h13, fun z => by rw [r3]; exact a5 z, fun on => ?_⟩
  obtain ⟨b1, b2, b3, b4, b5, b6⟩ := a6 on
  obtain ⟨c1, c2, c3, c4, c5, c6, c7, c8, c9⟩ := b1
  obtain ⟨d1, d2, d3, d4, d5, d6⟩ := c1
  have n1 : tr ≠ 76 := by omega
  have n2 : ra ≠ 76 := by omega
  refine ⟨⟨⟨s, d2, by rw [r3]; exact d3, d4.fc fc htr n1, ?_, ?_⟩, by rw [fc.R htr n1]; exact c2, c3, by rw [fc.K hra]; exact c4, by rw [fc.L hra]; exact c5, by rw [o tr htr n1]; exact c6, c7, by rw [o ra hra n2]; exact c8, ?_⟩, by rw [e 43 (by decide)]; exact b2, by rw [e 45 (by decide)]; exact b3, by rw [e 44 (by decide)]; exact b4, by rw [o 94 (by omega) (by decide), o 95 (by omega) (by decide)]; exact b5, by rw [o 96 (by omega) (by decide), o 97 (by omega) (by decide), o 98 (by omega) (by decide), o 99 (by omega) (by decide)]; exact b6⟩
  · unfold Cd at d5 ⊢
    rw [e 17 (by decide), o 78 (by omega) (by decide)]
    exact d5
  · unfold Cdm at d6 ⊢
    rw [e 24 (by decide), o 83 (by omega) (by decide)]
    exact d6
  · unfold KT at c9 ⊢
    rw [e 35 (by decide), e 36 (by decide), o 92 (by omega) (by decide)]
    exact c9
/-- the model before it reads -/
theorem prep_m {hm : Zh} {v : Vw} {tr ra n : Nat} (m : KM hm v tr ra) (htl : v.tl ≤ 900) (hn : n ≤ v.tl) (b1 : zN hm ≤ 600000) (b2 : zS hm ≤ 6900000) : ∃ h20, St h20 ∧ Fc (fun i => i = 76) hm h20 ∧ zN h20 = zN hm + 6 ∧ zS h20 = zS hm + 122 ∧ (∀ j, 14 < j → zI h20 76 j = zI hm 76 j) ∧ zI h20 76 6 = iI 0 ∧ zI h20 76 7 = iI n ∧ zI h20 76 8 = iI 0 ∧ zI h20 76 9 = iI 0 ∧ zI h20 76 13 = iI 0 ∧ zR h20 76 3 = zR hm 76 3 ∧ RT h20 (zN hm) ∧ (∀ j, zI h20 (zN hm) j = 0) ∧ fX12_trick 76 (iI n) hm = (fX12_goesOn 76 h20).bind fun h22 => if zK h22 76 = 12 then (fX12_readAll 76 h22).bind fun h24 => if zK h24 76 = 12 then if (zI h24 76 13) ≤ 0 then (zR h24 76 4).bind fun r_26 => zlet (zsR h24 76 3 (some r_26)) fun h27 => if zK h27 76 = 12 then zlet (zsI h27 76 45 ((0 : Int32))) fun h29 => if zK h29 76 = 12 then zlet (zsI h29 76 44 ((0 : Int32))) fun h31 => if zK h31 76 = 12 then (fX12_deals 76 h31).bind fun h33 => if zK h33 76 = 12 then (fX12_laysCodes 76 h33).bind fun h35 => if zK h35 76 = 12 then zlet (zsI h35 76 35 ((0 : Int32))) fun h37 => if zK h37 76 = 12 then (zR h37 76 3).bind fun r_39 => if zK h37 r_39 = 11 then zlet (zsI h37 76 43 (zI h37 r_39 6)) fun h41 => (lp (fun q : Int32 × Zh => bX12_trick_133 hm 76 q.1 q.2) zB ((0 : Int32), h41)).bind fun q => kX12_trick_133 hm 76 q.1 q.2.1 q.2.2 else none else none else none else none else none else none else none else zlet (zsI h24 76 1 ((4 : Int32))) fun h79 => if zK h79 76 = 12 then zlet (zsI h79 76 2 (zI h79 76 14)) fun h81 => some ((-1 : Int32), h81) else none else none else none := by
  obtain ⟨a1, a2, a3, a4, a5, a6⟩ := m
  have hN := a1.1
  have hC : zNC = 601024 := rfl
  have hS : zNS = 7293034 := rfl
  have x0 : ¬ iI (n : Int) < (0 : Int32) := by rw [show (0 : Int32) = iI 0 from rfl, iI_lt ⟨by omega, by omega⟩ ⟨by decide, by decide⟩]; omega
  have x1 : iI (n : Int) ≤ iI (v.tl : Int) := by rw [iI_le ⟨by omega, by omega⟩ ⟨by omega, by omega⟩]; omega
  have fA : Fm [76] hm (zsI (zsI (zsI (zsI (zsI hm 76 0 (iI 0)) 76 7 (iI n)) 76 6 (iI 0)) 76 8 (iI 0)) 76 13 (iI 0)) := ((((Fm_sI _ _ _ (by simp)).tr (Fm_sI _ _ _ (by simp))).tr (Fm_sI _ _ _ (by simp))).tr (Fm_sI _ _ _ (by simp))).tr (Fm_sI _ _ _ (by simp))
  have v6 : zI (zsI (zsI (zsI (zsI (zsI hm 76 0 (iI 0)) 76 7 (iI n)) 76 6 (iI 0)) 76 8 (iI 0)) 76 13 (iI 0)) 76 6 = iI 0 := by rw [zI_sI, z2_k _ _ _ (by decide), zI_sI, z2_k _ _ _ (by decide), zI_sI, z2_at]
  have v7 : zI (zsI (zsI (zsI (zsI (zsI hm 76 0 (iI 0)) 76 7 (iI n)) 76 6 (iI 0)) 76 8 (iI 0)) 76 13 (iI 0)) 76 7 = iI n := by rw [zI_sI, z2_k _ _ _ (by decide), zI_sI, z2_k _ _ _ (by decide), zI_sI, z2_k _ _ _ (by decide), zI_sI, z2_at]
  have v8 : zI (zsI (zsI (zsI (zsI (zsI hm 76 0 (iI 0)) 76 7 (iI n)) 76 6 (iI 0)) 76 8 (iI 0)) 76 13 (iI 0)) 76 8 = iI 0 := by rw [zI_sI, z2_k _ _ _ (by decide), zI_sI, z2_at]
  have v13 : zI (zsI (zsI (zsI (zsI (zsI hm 76 0 (iI 0)) 76 7 (iI n)) 76 6 (iI 0)) 76 8 (iI 0)) 76 13 (iI 0)) 76 13 = iI 0 := by rw [zI_sI, z2_at]
  have vj : ∀ j, 14 < j → zI (zsI (zsI (zsI (zsI (zsI hm 76 0 (iI 0)) 76 7 (iI n)) 76 6 (iI 0)) 76 8 (iI 0)) 76 13 (iI 0)) 76 j = zI hm 76 j := fun j hj => by rw [zI_sI, z2_k _ _ _ (by omega), zI_sI, z2_k _ _ _ (by omega), zI_sI, z2_k _ _ _ (by omega), zI_sI, z2_k _ _ _ (by omega), zI_sI, z2_k _ _ _ (by omega)]
  have k0 := sK76 a1
  unfold fX12_trick
  rw [zlet_eq, if_pos k0, zlet_eq, if_neg x0, if_pos (show zK (zsI hm 76 0 (0 : Int32)) 76 = 12 from k0), show zI (zsI hm 76 0 (0 : Int32)) 76 6 = iI v.tl by rw [zI_sI, z2_k _ _ _ (by decide)]; exact a2, if_pos x1, zlet_eq, zK_sI, zK_sI, if_pos k0, zlet_eq, zK_sI, zK_sI, zK_sI, if_pos k0, zlet_eq, zK_sI, zK_sI, zK_sI, zK_sI, if_pos k0, zlet_eq]
  rw [show zsI (zsI (zsI (zsI (zsI hm 76 0 (0 : Int32)) 76 7 (iI n)) 76 6 (0 : Int32)) 76 8 (0 : Int32)) 76 13 (0 : Int32) = zsI (zsI (zsI (zsI (zsI hm 76 0 (iI 0)) 76 7 (iI n)) 76 6 (iI 0)) 76 8 (iI 0)) 76 13 (iI 0) from rfl]
  generalize zsI (zsI (zsI (zsI (zsI hm 76 0 (iI 0)) 76 7 (iI n)) 76 6 (iI 0)) 76 8 (iI 0)) 76 13 (iI 0) = hA at *
  have sA := a1.fm fA
  have NA : zN hA = zN hm := fA.N
  have SA : zS hA = zS hm := fA.S
  obtain ⟨h16, i1, i2, i3, i4, i5, i6, i7, i8, i9, i10, i11, i12, i13, i14, i15, i16, i17, i18, i19, i20, i21, i22⟩ := init_m (h := znw hA 11 0 15) (tr := zN hm) (sA.nw 11 0 15) hN (by rw [zK_nw, NA, z1_self]) (by rw [zN_nw, NA]) b1 (by rw [zS_nw, SA]; omega)
  have k16 := sK76 i2
  rw [if_pos (by rw [hC, hS, NA, SA]; omega), zlet_eq, NA, i1, Option.bind_some, if_pos k16, zlet_eq, if_pos (show zK (zsR h16 76 4 (some (zN hm))) 76 = 12 from k16), zlet_eq, if_pos (show zK (zsI (zsR h16 76 4 (some (zN hm))) 76 9 (0 : Int32)) 76 = 12 from k16)]
  have n76 : (76 : Nat) ≠ zN hm := by omega
  have I76 : zI h16 76 = zI hA 76 := by
    rw [i3.I (by rw [zN_nw]; omega) n76, zI_nw, z1_ne _ _ (by omega)]
  have R76 : zR h16 76 = zR hm 76 := by
    rw [i3.R (by rw [zN_nw]; omega) n76, zR_nw, z1_ne _ _ (by omega), fA.R]
  refine ⟨zsI (zsR h16 76 4 (some (zN hm))) 76 9 (0 : Int32), (i2.sR _ (by decide)).fm (Fm_sI (S := [76]) _ _ _ (by simp)), ?_, i4, by show zS h16 = _; rw [i5, zS_nw, SA], fun j hj => ?_, ?_, ?_, ?_, ?_, ?_, ?_, ?_, fun j => ?_, rfl⟩
  · have f1 : Fc (fun i => i = 76) hm hA := fA.c.mono (fun i _ hi => by simpa using hi)
    have f2 : Fc (fun i => i = 76) hA (znw hA 11 0 15) := Fc_nw _ _ _ _
    have f4 : Fc (fun i => i = 76) h16 (zsI (zsR h16 76 4 (some (zN hm))) 76 9 (0 : Int32)) := (Fc_sR (A := fun i => i = 76) h16 4 (some (zN hm)) rfl).tr ((Fm_sI (S := [76]) _ _ _ (by simp)).c.mono (B := fun i => i = 76) (fun i _ hi => by simpa using hi)) (fun _ _ hi => hi)
    exact (((f1.tr f2 (fun _ _ hi => hi)).tr i3 (fun i h1 h2 => by omega))).tr f4 (fun _ _ hi => hi)
  · rw [zI_sI, z2_k _ _ _ (by omega), zI_sR, I76]; exact vj j hj
  · rw [zI_sI, z2_k _ _ _ (by decide), zI_sR, I76]; exact v6
  · rw [zI_sI, z2_k _ _ _ (by decide), zI_sR, I76]; exact v7
  · rw [zI_sI, z2_k _ _ _ (by decide), zI_sR, I76]; exact v8
  · rw [zI_sI, z2_at]; rfl
  · rw [zI_sI, z2_k _ _ _ (by decide), zI_sR, I76]; exact v13
  · show zR (zsR h16 76 4 (some (zN hm))) 76 3 = _
    rw [zR_sR, z2_k _ _ _ (by decide), R76]
  · have rj : ∀ j, zR (zsI (zsR h16 76 4 (some (zN hm))) 76 9 (0 : Int32)) (zN hm) j = zR h16 (zN hm) j := fun j => by
      show zR (zsR h16 76 4 (some (zN hm))) (zN hm) j = _
      rw [zR_sR, z2_a _ _ _ _ (by omega)]
    refine ⟨?_, hN, i7, by rw [rj]; exact i8, by rw [rj]; exact i9, by rw [rj]; exact i10, by rw [rj]; exact i11, by rw [rj]; exact i12, i13, i14, i15, i16, i17, i18, i19, i20, i21, i22⟩
    show zR (zsR h16 76 4 (some (zN hm))) 76 4 = _
    rw [zR_sR, z2_at]
  · rw [zI_sI, z2_a _ _ _ _ (by omega), zI_sR, i6, zI_nw, NA, z1_self]
theorem trick_m {hm : Zh} {v : Vw} {tr ra n : Nat} (ok : VOK v) (m : KM hm v tr ra) (hn : n ≤ v.tl) (htr : tr < zN hm) (hra : ra < zN hm) (b1 : zN hm ≤ 600000) (b2 : zS hm ≤ 6900000) : ∃ h2, Fc (fun i => 76 ≤ i ∧ i < 101) hm h2 ∧ zN h2 = zN hm + 6 ∧ zS h2 = zS hm + 122 ∧ ((∃ f q, pA v.tp n (n + 1) S0 0 = er f q ∧ fX12_trick 76 (iI n) hm = some (iI (-1), h2) ∧ KM h2 (v.flt f q) tr ra ∧ zI h2 76 1 = iI 4 ∧ zI h2 76 2 = iI q) ∨ ∃ S p, pA v.tp n (n + 1) S0 0 = rt S p ∧ (PSk n S → fX12_trick 76 (iI n) hm = some (iI (Prc S), zsI (zsI h2 76 1 (iI 0)) 76 2 (iI (-1))) ∧ KM h2 (v.tld S) (zN hm) (zN hm + 1))) := by
  have m0 := m
  obtain ⟨htl, htp⟩ := ok.1
  obtain ⟨h20, s20, fc, N20, S20, pj, p6, p7, p8, p9, p13, pR3, rt0, pz, ep⟩ := prep_m m htl hn b1 b2
  obtain ⟨a1, a2, a3, a4, a5, a6⟩ := m
  have hN := a1.1
  have tm : TxM h20 v.tp n := ⟨by omega, p7, fun j hj => by
    rw [fc.I (by omega) (by decide)]
    exact ⟨a3 j (by omega), htp j (by omega)⟩⟩
  obtain ⟨h22, g1, g2, g3, g4⟩ := fX12_goesOn_eq (so := 0) s20 tm (Nat.zero_le _) p8 p9 (by decide)
  have s22 := s20.fj g2
  have fr22 : FR [] h20 h22 := fr_76 g2 (fun j a _ _ => g3 j a)
  have mr : MR v.tp n h22 (rt () 0) := mr_r s22 g4 (by rw [g3 13 (by unfold M6; omega)]; exact p13)
  have ms20 : MS h20 (zN hm) v.tp n S0 := ⟨rt0, fun _ => by rw [pz]; rfl, fun z => (by cases z), by rw [pz]; rfl, by rw [pz]; rfl, fun i hi => absurd hi (Nat.not_lt_zero _), fun i hi => absurd hi (Nat.not_lt_zero _)⟩
  obtain ⟨h24, r1, r2, r3, r4⟩ := readAll_m mr (ms20.fr fr22)
  have s24 := r3.1
  have fr24 : FR (ml6 (zN hm)) h20 h24 := (fr22.mono (by simp)).tr r2
  have N24 : zN h24 = zN hm + 6 := by rw [fr24.N]; exact N20
  have S24 : zS h24 = zS hm + 122 := by rw [fr24.1.S]; exact S20
  have j24 : ∀ j, 14 < j → zI h24 76 j = zI hm 76 j := fun j hj => by rw [fr24.2 j (Or.inr hj), pj j hj]
  have k6 : zI h24 76 6 = iI 0 := by rw [fr24.2 6 (by omega)]; exact p6
  have fc24 : Fc (fun i => i = 76) hm h24 := fc.tr fr24.1.c (fun i h1 h2 => by
    unfold ml6 at h2
    simp only [List.mem_cons, List.not_mem_nil, or_false] at h2
    omega)
  have k24 := sK76 s24
  rw [ep, g1, Option.bind_some, if_pos (sK76 s22), r1, Option.bind_some, if_pos (sK76 s24)]
  rcases (pA v.tp n (n + 1) S0 0).cs with ⟨f, q, e⟩ | ⟨S, p, e⟩
  · rw [e] at r3
    obtain ⟨-, h9, h13, h14⟩ := mr_ei r3
    obtain ⟨f1, f7⟩ := ez_pA _ _ _ f q e
    have hf : ¬ zI h24 76 13 ≤ (0 : Int32) := by rw [h13, show (0 : Int32) = iI 0 from rfl, iI_le ⟨by omega, by omega⟩ ⟨by decide, by decide⟩]; omega
    have fZ : Fm [76] h24 (zsI (zsI h24 76 1 (iI 4)) 76 2 (iI q)) := (Fm_sI _ _ _ (by simp)).tr (Fm_sI _ _ _ (by simp))
    have fcZ : Fc (fun i => i = 76) hm (zsI (zsI h24 76 1 (iI 4)) 76 2 (iI q)) := fc24.tr fZ.c (fun i _ hi => by simpa using hi)
    refine ⟨zsI (zsI h24 76 1 (iI 4)) 76 2 (iI q), fcZ.mono (fun i _ hi => by omega), N24, S24, Or.inl ⟨f, q, e, ?_, ?_, ?_, ?_⟩⟩
    · rw [if_neg hf, zlet_eq, if_pos (show zK (zsI h24 76 1 (4 : Int32)) 76 = 12 from k24), zlet_eq, show zI (zsI h24 76 1 (4 : Int32)) 76 14 = iI q by rw [zI_sI, z2_k _ _ _ (by decide)]; exact h14]
      rfl
    · refine m0.red (s24.fm fZ) fcZ (fun j hj => ?_) ?_ ?_ ?_ htr hra
      · rw [zI_sI, z2_k _ _ _ (by omega), zI_sI, z2_k _ _ _ (by omega)]; exact j24 j hj
      · show zR h24 76 3 = _
        rw [fr24.R]; exact pR3
      · rw [zI_sI, z2_k _ _ _ (by decide), zI_sI, z2_k _ _ _ (by decide)]; exact k6
      · rw [zI_sI, z2_k _ _ _ (by decide), zI_sI, z2_k _ _ _ (by decide)]; exact h13
    · rw [zI_sI, z2_k _ _ _ (by decide), zI_sI, z2_at]
    · rw [zI_sI, z2_at]
  · have bg := pA_b _ _ _ S p e
    obtain ⟨qT, -, trT, t5, t6, nm, ev⟩ := r4 S p e
    rw [e] at r3
    obtain ⟨-, rd, h13⟩ := mr_ri r3
    have hf : zI h24 76 13 ≤ (0 : Int32) := by rw [h13]; decide
    have hT := trT bg
    have h101 := qT.2.1
    obtain ⟨q4, -, qk, q10, q11, q12, q13, q14, kk1, ll1, kk2, ll2, kk3, ll3, kk4, ll4, kk5, ll5⟩ := qT
    have r3' : zR h24 76 4 = some (zN hm) := q4
    rw [if_pos hf, r3', Option.bind_some, zlet_eq, if_pos (show zK (zsR h24 76 3 (some (zN hm))) 76 = 12 from k24), zlet_eq, if_pos (show zK (zsI (zsR h24 76 3 (some (zN hm))) 76 45 (0 : Int32)) 76 = 12 from k24), zlet_eq, if_pos (show zK (zsI (zsI (zsR h24 76 3 (some (zN hm))) 76 45 (0 : Int32)) 76 44 (0 : Int32)) 76 = 12 from k24)]
    have f31 : Fc (fun i => i = 76) h24 (zsI (zsI (zsR h24 76 3 (some (zN hm))) 76 45 (0 : Int32)) 76 44 (0 : Int32)) := ((Fc_sR (A := fun i => i = 76) h24 3 (some (zN hm)) rfl).tr ((Fm_sI (S := [76]) _ _ _ (by simp)).c.mono (B := fun i => i = 76) (fun i _ hi => by simpa using hi)) (fun _ _ hi => hi)).tr ((Fm_sI (S := [76]) _ _ _ (by simp)).c.mono (B := fun i => i = 76) (fun i _ hi => by simpa using hi)) (fun _ _ hi => hi)
    have s31 : St (zsI (zsI (zsR h24 76 3 (some (zN hm))) 76 45 (0 : Int32)) 76 44 (0 : Int32)) := ((s24.sR _ (by decide)).fm (Fm_sI (S := [76]) _ _ _ (by simp))).fm (Fm_sI (S := [76]) _ _ _ (by simp))
    have R31 : zR (zsI (zsI (zsR h24 76 3 (some (zN hm))) 76 45 (0 : Int32)) 76 44 (0 : Int32)) 76 3 = some (zN hm) := by
      show zR (zsR h24 76 3 (some (zN hm))) 76 3 = _
      rw [zR_sR, z2_at]
    have i31 : ∀ j, j ≠ 44 → j ≠ 45 → zI (zsI (zsI (zsR h24 76 3 (some (zN hm))) 76 45 (0 : Int32)) 76 44 (0 : Int32)) 76 j = zI h24 76 j := fun j x y => by rw [zI_sI, z2_k _ _ _ x, zI_sI, z2_k _ _ _ y, zI_sR]
    have i44 : zI (zsI (zsI (zsR h24 76 3 (some (zN hm))) 76 45 (0 : Int32)) 76 44 (0 : Int32)) 76 44 = iI 0 := by rw [zI_sI, z2_at]; rfl
    have i45 : zI (zsI (zsI (zsR h24 76 3 (some (zN hm))) 76 45 (0 : Int32)) 76 44 (0 : Int32)) 76 45 = iI 0 := by rw [zI_sI, z2_k _ _ _ (by decide), zI_sI, z2_at]; rfl
    have K31 : zK (zsI (zsI (zsR h24 76 3 (some (zN hm))) 76 45 (0 : Int32)) 76 44 (0 : Int32)) = zK h24 := rfl
    have L31 : zL (zsI (zsI (zsR h24 76 3 (some (zN hm))) 76 45 (0 : Int32)) 76 44 (0 : Int32)) = zL h24 := rfl
    have NS31 : zN (zsI (zsI (zsR h24 76 3 (some (zN hm))) 76 45 (0 : Int32)) 76 44 (0 : Int32)) = zN h24 ∧ zS (zsI (zsI (zsR h24 76 3 (some (zN hm))) 76 45 (0 : Int32)) 76 44 (0 : Int32)) = zS h24 := ⟨rfl, rfl⟩
    generalize zsI (zsI (zsR h24 76 3 (some (zN hm))) 76 45 (0 : Int32)) 76 44 (0 : Int32) = h31 at *
    have o31 : ∀ x, x < zN hm + 6 → x ≠ 76 → zI h31 x = zI h24 x ∧ zR h31 x = zR h24 x := fun x h1 h2 => ⟨f31.I (by omega) h2, f31.R (by omega) h2⟩
    have T31 : Tr h31 (zN hm) (Ptk S) := hT.fc f31 (by omega) (by omega)
    have sound : PSk n S → ∃ h2, Fc (fun i => 76 ≤ i ∧ i < 101) hm h2 ∧ zN h2 = zN hm + 6 ∧ zS h2 = zS hm + 122 ∧ ((fX12_deals 76 h31).bind fun h33 => if zK h33 76 = 12 then (fX12_laysCodes 76 h33).bind fun h35 => if zK h35 76 = 12 then zlet (zsI h35 76 35 ((0 : Int32))) fun h37 => if zK h37 76 = 12 then (zR h37 76 3).bind fun r_39 => if zK h37 r_39 = 11 then zlet (zsI h37 76 43 (zI h37 r_39 6)) fun h41 => (lp (fun q : Int32 × Zh => bX12_trick_133 hm 76 q.1 q.2) zB ((0 : Int32), h41)).bind fun q => kX12_trick_133 hm 76 q.1 q.2.1 q.2.2 else none else none else none else none) = some (iI (Prc S), zsI (zsI h2 76 1 (iI 0)) 76 2 (iI (-1))) ∧ KM h2 (v.tld S) (zN hm) (zN hm + 1) := by
      intro k
      obtain ⟨o1, o2, o3, o4, o5, o6⟩ := k
      have tok := o1 bg
      obtain ⟨h33, d1, d2, d3, d4⟩ := fX12_deals_eq tok s31 h101 R31 T31
      have s33 := s31.fm d2
      have T33 := T31.fm d2 (by simp; omega)
      obtain ⟨h35, l1, l2, l3, l4⟩ := fX12_laysCodes_eq tok s33 h101 (by rw [d2.R]; exact R31) T33
      have s35 := s33.fm l2
      have T35 := T33.fm l2 (by simp; omega)
      have f37 : Fm [76] h35 (zsI h35 76 35 (iI 0)) := Fm_sI _ _ _ (by simp)
      have e35 : zI (zsI h35 76 35 (iI 0)) 76 35 = iI 0 := by rw [zI_sI, z2_at]
      have ej : ∀ j, j ≠ 35 → zI (zsI h35 76 35 (iI 0)) 76 j = zI h35 76 j := fun j hj => by rw [zI_sI, z2_k _ _ _ hj]
      rw [d1, Option.bind_some, if_pos (sK76 s33), l1, Option.bind_some, if_pos (sK76 s35), zlet_eq, show zsI h35 76 35 (0 : Int32) = zsI h35 76 35 (iI 0) from rfl]
      generalize zsI h35 76 35 (iI 0) = h37 at *
      have s37 := s35.fm f37
      have T37 := T35.fm f37 (by simp; omega)
      have R37 : zR h37 = zR h31 := by rw [f37.R, l2.R, d2.R]
      have K37 : zK h37 = zK h24 := by rw [f37.K, l2.K, d2.K, K31]
      have o37 : ∀ x, 101 ≤ x → x < zN hm + 6 → zI h37 x = zI h24 x := fun x h1 h2 => by
        rw [f37.I (by simp; omega), l2.I (by simp; omega), d2.I (by simp; omega), (o31 x h2 (by omega)).1]
      have t637 : zI h37 (zN hm) 6 = iI (Pel S) := by rw [o37 _ h101 (by omega)]; exact t6
      rw [if_pos (sK76 s37), R37, R31, Option.bind_some, if_pos T37.1, t637, zlet_eq]
      have f41 : Fm [76] h37 (zsI h37 76 43 (iI (Pel S))) := Fm_sI _ _ _ (by simp)
      have e43 : zI (zsI h37 76 43 (iI (Pel S))) 76 43 = iI (Pel S) := by rw [zI_sI, z2_at]
      have ek : ∀ j, j ≠ 43 → zI (zsI h37 76 43 (iI (Pel S))) 76 j = zI h37 76 j := fun j hj => by rw [zI_sI, z2_k _ _ _ hj]
      generalize zsI h37 76 43 (iI (Pel S)) = h41 at *
      have s41 := s37.fm f41
      have T41 := T37.fm f41 (by simp; omega)
      have R41 : zR h41 = zR h31 := by rw [f41.R, R37]
      have K41 : zK h41 = zK h24 := by rw [f41.K, K37]
      have L41 : zL h41 = zL h24 := by rw [f41.L, f37.L, l2.L, d2.L, L31]
      have o41 : ∀ x, 101 ≤ x → x < zN hm + 6 → zI h41 x = zI h24 x := fun x h1 h2 => by rw [f41.I (by simp; omega), o37 x h1 h2]
      have i41 : ∀ j, j ≠ 43 → j ≠ 35 → j ≠ 24 → j ≠ 17 → zI h41 76 j = zI h31 76 j := fun j a b c d => by rw [ek j a, ej j b, l3 j c, d3 j d]
      have cd41 : Cd h41 (Ptk S) := by
        unfold Cd at d4 ⊢
        rw [ek 17 (by decide), ej 17 (by decide), l3 17 (by decide), f41.I (by decide), f37.I (by decide), l2.I (by decide)]
        exact d4
      have cm41 : Cdm h41 (Ptk S) := by
        unfold Cdm at l4 ⊢
        rw [ek 24 (by decide), ej 24 (by decide), f41.I (by decide), f37.I (by decide)]
        exact l4
      have rT : ∀ j, zR h41 (zN hm) j = zR h24 (zN hm) j := fun j => by rw [R41, (o31 (zN hm) (by omega) (by omega)).2]
      obtain ⟨hZ, z1, z2', z3⟩ := ev133 (g := hm) (c := Pec S) (s := Pes S) (m := Pet S) (el := Pel S) tok s41 (by rw [R41]; exact R31) h101 T41 cd41 e43 o5 (by rw [rT]; exact q11) (by rw [rT]; exact q12) (by rw [rT]; exact q13) (by rw [K41]; exact kk2) (by rw [L41]; exact ll2) (by rw [K41]; exact kk3) (by rw [L41]; exact ll3) (by rw [K41]; exact kk4) (by rw [L41]; exact ll4) (fun e he => by rw [o41 _ (by omega) (by omega), o41 _ (by omega) (by omega), o41 _ (by omega) (by omega)]; exact ev e he) o6
      have sZ := s41.fm z2'
      have TZ := T41.fm z2' (by simp; omega)
      have oZ : ∀ x, 101 ≤ x → x < zN hm + 6 → zI hZ x = zI h24 x := fun x h1 h2 => by rw [z2'.I (by simp; omega), o41 x h1 h2]
      have iZ : ∀ j, zI hZ 76 j = zI h41 76 j := fun j => z2'.o (by decide) j
      refine ⟨hZ, ?_, ?_, ?_, ?_, ?_⟩
      · have f0 : Fc (fun i => 76 ≤ i ∧ i < 101) hm h31 := (fc24.tr f31 (fun _ _ hi => hi)).mono (fun i _ hi => by omega)
        have fz : ∀ {S : List Nat} {a b : Zh}, Fm S a b → (∀ x, x ∈ S → 76 ≤ x ∧ x < 101) → Fc (fun i => 76 ≤ i ∧ i < 101) a b := fun f hs => f.c.mono (fun i _ hi => hs i hi)
        exact ((((f0.tr (fz d2 (by simp)) (fun _ _ hi => hi)).tr (fz l2 (by simp)) (fun _ _ hi => hi)).tr (fz f37 (by simp)) (fun _ _ hi => hi)).tr (fz f41 (by simp)) (fun _ _ hi => hi)).tr (fz z2' (by simp)) (fun _ _ hi => hi)
      · rw [z2'.N, f41.N, f37.N, l2.N, d2.N, NS31.1]; exact N24
      · rw [z2'.S, f41.S, f37.S, l2.S, d2.S, NS31.2]; exact S24
      · rw [z1, Option.bind_some]
        unfold kX12_trick_133
        rw [if_pos (sK76 sZ), z2'.R, R41, R31, Option.bind_some, if_pos TZ.1, oZ _ h101 (by omega), t5, good_m sZ]
        rfl
      · refine ⟨sZ, ?_, fun j hj => absurd hj (Nat.not_lt_zero _), ?_, fun z => (by cases z), fun _ => ⟨⟨⟨sZ, h101, by rw [z2'.R, R41]; exact R31, TZ, ?_, ?_⟩, ?_, by omega, ?_, ?_, ?_, o3, fun i hi => ?_, Or.inl ?_⟩, ?_, ?_, ?_, z3, fun k hk => absurd hk (Nat.not_lt_zero _)⟩⟩
        · rw [iZ, i41 6 (by decide) (by decide) (by decide) (by decide), i31 6 (by decide) (by decide)]; exact k6
        · rw [iZ, i41 13 (by decide) (by decide) (by decide) (by decide), i31 13 (by decide) (by decide)]; exact h13
        · show Cd hZ (Ptk S)
          unfold Cd at cd41 ⊢
          rw [iZ, z2'.I (by decide)]
          exact cd41
        · show Cdm hZ (Ptk S)
          unfold Cdm at cm41 ⊢
          rw [iZ, z2'.I (by decide)]
          exact cm41
        · rw [z2'.R, rT]; exact q10
        · rw [z2'.K, K41]; exact kk1
        · rw [z2'.L, L41]; exact ll1
        · rw [oZ _ h101 (by omega)]; exact t5
        · rw [oZ _ (by omega) (by omega)]
          exact ⟨(nm i hi).1, (o4 i hi).1⟩
        · rw [iZ, ek 35 (by decide)]; exact e35
        · rw [iZ]; exact e43
        · rw [iZ, i41 45 (by decide) (by decide) (by decide) (by decide)]; exact i45
        · rw [iZ, i41 44 (by decide) (by decide) (by decide) (by decide)]; exact i44
    by_cases k : PSk n S
    · obtain ⟨h2, y1, y2, y3, y4, y5⟩ := sound k
      exact ⟨h2, y1, y2, y3, Or.inr ⟨S, p, e, fun _ => ⟨y4, y5⟩⟩⟩
    · exact ⟨h24, fc24.mono (fun i _ hi => by omega), N24, S24, Or.inr ⟨S, p, e, fun z => absurd z k⟩⟩
theorem op_trick {h : Zh} {u : Nat} {a : Int} (inv : Inv h u) (hu : u ≤ 59000) (ha : iR a) : OpR (fX10_trick 0 (iI a)) (fX12_trick 76 (iI a)) h u := by
  obtain ⟨v, tb, tr, ra, ok, c, m, trb⟩ := inv
  have s := c.1
  have ha1 := ha.1
  have ha2 := ha.2
  obtain ⟨htl, htp⟩ := ok.1
  have g2 := c.2.1
  by_cases cc : 0 ≤ a ∧ a ≤ v.tl
  · obtain ⟨n, rfl⟩ : ∃ n : Nat, a = n := ⟨a.toNat, by omega⟩
    have hn : n ≤ v.tl := by omega
    obtain ⟨h1, f1, c1⟩ := trick_c ok c hn
    have htr := c.2.2.2.2.2.2.2.2.2.2.1
    have hra := c.2.2.2.2.2.2.2.2.2.2.2.1
    have fin : ∀ (k : Nat) (v' : Vw), VOK v' → KC h1 v' u tr ra → KM (zsI h1 0 8 (iI k)) v tr ra ∧ zN (zsI h1 0 8 (iI k)) ≤ 600000 ∧ zS (zsI h1 0 8 (iI k)) ≤ 6900000 ∧ tr < zN h1 ∧ ra < zN h1 ∧ KC (zsI h1 0 8 (iI k)) v' u tr ra := by
      intro k v' ok' k1
      have s1 := k1.1
      have f0 : Fm [0] h1 (zsI h1 0 8 (iI k)) := Fm_sI _ _ _ (by simp)
      have b1 := k1.2.2.2.2.2.2.2.2.2.2.1
      have b2 := k1.2.2.2.2.2.2.2.2.2.2.2.1
      refine ⟨(m.fc s1 f1 htr hra).fc (s1.fm f0) (f0.c.mono (fun i _ hi => by simp at hi; unfold CFr; omega)) b1 b2, ?_, ?_, b1, b2, k1.s0 ok' (by decide) (by decide) (by decide) (by decide)⟩
      · obtain ⟨-, -, -, -, -, -, -, -, -, -, -, -, -, CR, OW, se, sp, -, -, -, d4, -⟩ := k1
        show zN h1 ≤ 600000
        omega
      · obtain ⟨-, -, -, -, -, -, -, -, -, -, -, -, -, CR, OW, se, sp, -, -, -, d4, d5, -⟩ := k1
        show zS h1 ≤ 6900000
        unfold Pot at d5
        omega
    rcases c1 with ⟨f, q, e1, e2, k1⟩ | ⟨S, p, e1, k, e2, k1⟩
    · have ok' := flt_ok ok f q
      obtain ⟨m1, b1, b2, b3, b4, k2⟩ := fin 4 _ ok' k1
      obtain ⟨h2, y1, y2, y3, y4⟩ := trick_m ok m1 hn b3 b4 b1 b2
      rcases y4 with ⟨f', q', e', y5, y6, y7, y8⟩ | ⟨S, p, e', -⟩
      · rw [e1] at e'
        obtain ⟨z1, z2⟩ := er_in e'
        rw [← z1, ← z2] at y6
        rw [← z2] at y8
        refine ⟨_, _, h2, e2, y5, v.flt f q, 4, tr, ra, ok', ?_, y6, ?_, y7, ?_⟩
        · have hx : zN h2 ≤ zN (zsI h1 0 8 (iI ((4 : Nat) : Int))) + 4 * (u + 100 - u) := by rw [y2]; omega
          have hy : zS h2 ≤ zS (zsI h1 0 8 (iI ((4 : Nat) : Int))) + 4 * (u + 100 - u) := by rw [y3]; omega
          exact k2.fc ok' y6.1 (y1.mono (fun i _ hi => hi.1)) (by omega) hx hy ⟨by rw [y2]; show tr < zN h1 + 6; omega, by rw [y2]; show ra < zN h1 + 6; omega⟩ ⟨Or.inl rfl, Or.inl rfl⟩
        · rw [y1.I (by have := k2.1.1; omega) (by omega), zI_sI, z2_at]
        · rw [y8, if_pos (by decide)]
          rfl
      · rw [e1] at e'
        exact (er_rt e').elim
    · have bg := pA_b _ _ _ S p e1
      have ok' := tld_ok ok k bg
      obtain ⟨m1, b1, b2, b3, b4, k2⟩ := fin 0 _ ok' k1
      obtain ⟨h2, y1, y2, y3, y4⟩ := trick_m ok m1 hn b3 b4 b1 b2
      rcases y4 with ⟨f', q', e', -⟩ | ⟨S', p', e', y5⟩
      · rw [e1] at e'
        exact (rt_er e').elim
      · rw [e1] at e'
        obtain ⟨z1, z2⟩ := rt_in e'
        rw [← z1] at y5
        obtain ⟨y6, y7⟩ := y5 k
        have fz : Fm [76] h2 (zsI (zsI h2 76 1 (iI 0)) 76 2 (iI (-1))) := (Fm_sI _ _ _ (by simp)).tr (Fm_sI _ _ _ (by simp))
        have hx : zN (zsI (zsI h2 76 1 (iI 0)) 76 2 (iI (-1))) ≤ zN (zsI h1 0 8 (iI ((0 : Nat) : Int))) + 4 * (u + 100 - u) := by
          show zN h2 ≤ _
          rw [y2]; omega
        have hy : zS (zsI (zsI h2 76 1 (iI 0)) 76 2 (iI (-1))) ≤ zS (zsI h1 0 8 (iI ((0 : Nat) : Int))) + 4 * (u + 100 - u) := by
          show zS h2 ≤ _
          rw [y3]; omega
        refine ⟨_, _, _, e2, y6, v.tld S, 0, _, _, ok', ?_, (y7.s76 (by decide)).s76 (by decide), ?_, ?_, ?_⟩
        · exact k2.fc ok' (y7.1.fm fz) ((y1.mono (B := fun i => 76 ≤ i) (fun i _ hi => hi.1)).tr fz.c (fun i _ hi => by simp at hi; omega)) (by omega) hx hy ⟨by show _ < zN h2; rw [y2]; omega, by show _ < zN h2; rw [y2]; omega⟩ ⟨Or.inr (Nat.le_refl _), Or.inr (by omega)⟩
        · rw [zI_sI, z2_a _ _ _ _ (by decide), zI_sI, z2_a _ _ _ _ (by decide), y1.I (by have := k2.1.1; omega) (by omega), zI_sI, z2_at]
        · rw [zI_sI, z2_k _ _ _ (by decide), zI_sI, z2_at]; rfl
        · rw [zI_sI, z2_at, if_neg (by decide)]
  · refine OpR.mk (r := iI (-1)) ok ok c m (k := 2) (by decide) (COp.ref c ?_) (MOp.ref fun hm mm => ?_)
    · have e0 := refuse_c s 2
      unfold fX10_trick
      rw [zlet_eq]
      by_cases x0 : a < 0
      · rw [if_pos (by rw [show (0 : Int32) = iI 0 from rfl, iI_lt ha ⟨by decide, by decide⟩]; exact x0), if_pos (sK0 s), show fX10_refuse 0 (2 : Int32) h = _ from e0]
        rfl
      · rw [if_neg (by rw [show (0 : Int32) = iI 0 from rfl, iI_lt ha ⟨by decide, by decide⟩]; exact x0), if_pos (sK0 s), g2, if_neg (by rw [iI_le ha ⟨by omega, by omega⟩]; omega), show fX10_refuse 0 (2 : Int32) h = _ from e0]
        rfl
    · have sm := mm.1
      have f0 : Fm [76] hm (zsI hm 76 0 (iI 0)) := Fm_sI _ _ _ (by simp)
      have e0 := refused_m (sm.fm f0) 2
      have km := sK76 sm
      unfold fX12_trick
      rw [zlet_eq, if_pos km, zlet_eq, show zsI hm 76 0 (0 : Int32) = zsI hm 76 0 (iI 0) from rfl]
      by_cases x0 : a < 0
      · rw [if_pos (by rw [show (0 : Int32) = iI 0 from rfl, iI_lt ha ⟨by decide, by decide⟩]; exact x0), if_pos (show zK (zsI hm 76 0 (iI 0)) 76 = 12 from km), show fX12_refused 76 (2 : Int32) (zsI hm 76 0 (iI 0)) = _ from e0]
        rfl
      · rw [if_neg (by rw [show (0 : Int32) = iI 0 from rfl, iI_lt ha ⟨by decide, by decide⟩]; exact x0), if_pos (show zK (zsI hm 76 0 (iI 0)) 76 = 12 from km), show zI (zsI hm 76 0 (iI 0)) 76 6 = iI v.tl by rw [zI_sI, z2_k _ _ _ (by decide)]; exact mm.2.1, if_neg (by rw [iI_le ha ⟨by omega, by omega⟩]; omega), show fX12_refused 76 (2 : Int32) (zsI hm 76 0 (iI 0)) = _ from e0]
        rfl
