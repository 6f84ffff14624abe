/-! the model's settles, whole -/
theorem updN_clr {pr : Nat → Option Nat} {x r0 : Nat} (h : pr x = some r0) : updN (clrN pr x) x r0 = pr := by
  funext y
  by_cases c : y = x
  · rw [c, updN_at, h]
  · rw [updN_ne _ _ c]
    unfold clrN
    rw [if_neg c]
theorem fX12_settles_eq {t : Tk} {tr x r r0 c : Nat} {pr ow : Nat → Option Nat} {f : Nat → Option Int} {h : Zh} (tok : Tok t) (hH : tH t ≤ 2000) (mx : MX h t tr) (cn : Cns (tH t) (fcr t (crC t)) pr ow) (prf : Prf (tH t) pr) (pm : PM h t pr ow f c (tH t)) (hD : Dn h t (fun _ => false)) (hx : x < tH t) (hr0 : pr x = some r0) (hF : fcr t (crC t) x r) (hcc : c + 2 < 32768) : ∃ v h', fX12_settles 76 (iI x) (iI r) h = some (iI (bI v), h') ∧ Fm [76, 80, 82, 86, 87, 88, 89, 90, 91] h h' ∧ (∀ j, j ≠ 22 → zI h' 76 j = zI h 76 j) ∧ Dn h' t (fun _ => false) ∧ (v = false → (∃ f', PM h' t pr ow f' c (tH t)) ∧ r ≠ r0 ∧ Lq t (crC t) x pr r) ∧ (v = true → ∃ pr' ow' f' c', PM h' t pr' ow' f' c' (tH t) ∧ c' ≤ c + 2 ∧ Cns (tH t) (fcr t (crC t)) pr' ow' ∧ Prf (tH t) pr' ∧ pr' x = some r ∧ ∀ y, y < x → pr' y = pr y) := by
  obtain ⟨bn4, bn12, bu1, bu4, bnu, bk2, bk5, bkn, bp1, bp2, bpk, bH, bsp, bs1, bs4, bT1, bT16, bR1, bR2, bH1, bff, bff1⟩ := tok.b
  have hcr := crC_lt tok
  have hfl : ∀ r, fcr t (crC t) x r → r < 2147483648 := fun r hf => by
    have := fcr_lt hcr tok hx hf
    omega
  have m2 : ∀ y, y ∈ [86, 87] → y ∈ [76, 80, 82, 86, 87, 88, 89, 90, 91] := by simp
  have m1 : ∀ y, y ∈ [88] → y ∈ [76, 80, 82, 86, 87, 88, 89, 90, 91] := by simp
  have mS2 : ∀ x, x ∈ [86, 87] → x < 101 ∧ x ≠ 78 ∧ x ≠ 83 := by simp
  have s0 := mx.1
  have hF0 := cn.1 x r0 hx hr0
  have hrl := hfl r hF
  have hr0l := hfl r0 hF0.1
  have e88 : zI h 88 x = iI r0 := by
    have := pm.1 x hx (by omega)
    rw [hr0] at this
    exact this
  by_cases c0 : r = r0
  · refine ⟨true, h, settles_1 s0 (by omega) hrl (by rw [c0]; exact e88), Fm.rf, fun _ _ => rfl, hD, fun z => (by cases z), fun _ => ⟨pr, ow, f, c, pm, by omega, cn, prf, by rw [c0]; exact hr0, fun _ _ => rfl⟩⟩
  · have hne : ¬ (r : Int) = r0 := by omega
    have eow := fX12_ownerOf_eq (r := r) s0 pm.2.1 hrl
    rw [pm.2.2 r] at eow
    by_cases c1 : ∃ y, ow r = some y ∧ y < x
    · obtain ⟨y, y1, y2⟩ := c1
      rw [y1] at eow
      refine ⟨false, h, settles_2 s0 (by omega) hrl hr0l hne e88 eow y2, Fm.rf, fun _ _ => rfl, hD, fun _ => ⟨⟨f, pm⟩, c0, fun M m1 m2 m3 e => ?_⟩, fun z => (by cases z)⟩
      have hp := (cn.2 r y y1).2
      rw [m3 y y2] at hp
      exact m2 y x y2 hx (by rw [e]; exact Option.some.inj hp)
    · have hv : ro (ow r) = -1 ∨ ((x : Int) ≤ ro (ow r) ∧ ro (ow r) < 2000) := by
        cases e : ow r with
        | none => exact Or.inl rfl
        | some y =>
          have h1 := (cn.2 r y e).1
          have h2 : ¬ y < x := fun z => c1 ⟨y, e, z⟩
          refine Or.inr ⟨?_, ?_⟩
          · show (x : Int) ≤ (y : Int); omega
          · show (y : Int) < 2000; omega
      have hrun := settles_3 s0 (by omega) hrl hr0l hne e88 eow hv
      obtain ⟨h1, d1, o1, o2, o3, o4⟩ := fX12_owns_eq (w := (-1 : Int)) (r := r0) s0 pm.2.1 hr0l (Or.inl (getD_some pm.2.2 hF0.2))
      rw [if_pos (getD_some pm.2.2 hF0.2)] at o3
      subst o3
      have pm1 := pm.clr (x := x) o2 o4
      have s1 := s0.fm o2
      have cn1 := clr_cns cn hx hr0
      have hxn : clrN pr x x = none := if_pos rfl
      have hor : clrN ow r0 r = ow r := if_neg c0
      have hD1 : Dn h1 t (fun _ => false) := by unfold Dn; rw [o2.I (by simp)]; exact hD
      cases e : ow r with
      | none =>
        rw [e] at hrun hor
        have s2 : St (zsI h1 88 x (iI r)) := s1.sI _ _ _
        have fm2 : Fm [88] h1 (zsI h1 88 x (iI r)) := Fm_sI _ _ _ (by simp)
        obtain ⟨h2, d2, u1, u2, u3, u4⟩ := fX12_owns_eq (w := (x : Int)) (r := r) s2 (pm1.2.1.fm fm2 (by simp) (by simp)) hrl (Or.inr (by omega))
        have fm3 : Fm [76, 80, 82, 86, 87, 88, 89, 90, 91] h h2 := ((o2.mono m2).tr (fm2.mono m1)).tr (u2.mono m2)
        refine ⟨true, h2, ?_, fm3, fun j _ => by rw [u2.I (by simp), fm2.I (by simp), o2.I (by simp)], by unfold Dn; rw [u2.I (by simp), fm2.I (by simp)]; exact hD1, fun z => (by cases z), fun _ => ⟨_, _, _, d2, pm1.set u2 u4, by rw [u3]; split <;> omega, (cn1.x hor).last hx hF hxn, fun y hy => ?_, updN_at _ _ _, fun y hy => ?_⟩⟩
        · rw [hrun]
          unfold jX12_settles_35
          have o1' : fX12_owns 76 (iI r0) (-1 : Int32) h = some h1 := o1
          rw [bd_of o1', if_pos (show iI (ro none) = -1 from rfl)]
          exact settles_68 s0 s1 (by omega) u1
        · by_cases c2 : y = x
          · rw [c2, updN_at]; rfl
          · rw [updN_ne _ _ c2]; unfold clrN; rw [if_neg c2]; exact prf y hy
        · rw [updN_ne _ _ (by omega)]; unfold clrN; rw [if_neg (by omega)]
      | some y =>
        rw [e] at hrun hor
        have hyH := (cn.2 r y e).1
        have hyx : ¬ y < x := fun z => c1 ⟨y, e, z⟩
        have hyx2 : y ≠ x := fun z => by
          have := (cn.2 r y e).2
          rw [z, hr0] at this
          exact c0 (Option.some.inj this).symm
        have mx1 := mx.fm o2 (fun j _ => by rw [o2.I (by simp)]) mS2
        obtain ⟨v, h2, g1, g2, g3, g4, g5⟩ := fX12_goesOnFrom_eq (st := y) (s := x + 1) (bt := (r : Int)) (ex := x) tok hH mx1 (by omega) (by omega) (fun r' hr' => by
          have : r' = r := by omega
          rw [this]; exact hor) (by omega) cn1 pm1 hD1 (fun _ z => by cases z) hyH (by omega) rfl hyx2 hxn (by omega)
        have s2 := s1.fm g2
        have hj : ∀ b : Bool, v = b → jX12_settles_35 h 76 (iI x) (iI r) (iI r0) (iI y) h = (if iI (bI b) = 0 then (fX12_owns 76 (iI r0) (iI x) h2).bind fun h16 => some ((0 : Int32), h16) else jX12_settles_68 h 76 (iI x) (iI r) h2) := fun b hb => by
          unfold jX12_settles_35
          have o1' : fX12_owns 76 (iI r0) (-1 : Int32) h = some h1 := o1
          have g1' : fX12_goesOnFrom 76 (iI y) (iI x + 1) (iI r) h1 = some (iI (bI b), h2) := by
            rw [← hb, show (1 : Int32) = iI 1 from rfl, iI_add]; exact g1
          have hny : ¬ iI (y : Int) = -1 := by
            rw [show (-1 : Int32) = iI (-1) from rfl, iI_eq ⟨by omega, by omega⟩ ⟨by omega, by omega⟩]; omega
          rw [bd_of o1', if_neg hny, zc_of g1']
        cases v
        · obtain ⟨w1, D', w2, w3, w4, w5, w6, w7, w8⟩ := g5 rfl
          obtain ⟨h3, d3, u1, u2, u3, u4⟩ := fX12_owns_eq (w := (x : Int)) (r := r0) s2 w1.2.1 hr0l (Or.inl (by unfold updO; rw [if_pos rfl]; rfl))
          rw [if_pos (by unfold updO; rw [if_pos rfl]; rfl)] at u3
          subst u3
          refine ⟨false, h3, ?_, ((o2.mono m2).tr g2).tr (u2.mono m2), fun j hj => by rw [u2.I (by simp), g3 j hj, o2.I (by simp)], by unfold Dn; rw [u2.I (by simp)]; exact w7 (by omega), fun _ => ⟨⟨_, ⟨fun z hz _ => ?_, u4, fun q => ?_⟩⟩, c0, ?_⟩, fun z => (by cases z)⟩
          · exact hrun.trans ((hj false rfl).trans (by rw [if_pos (show iI (bI false) = 0 from rfl), bd_of u1]; rfl))
          · rw [u2.I (by simp), w8, o2.I (by simp)]; exact pm.1 z hz (by omega)
          · unfold updO
            by_cases c2 : q = r0
            · rw [if_pos c2, c2, hF0.2]; rfl
            · rw [if_neg c2, if_neg c2]; exact pm.2.2 q
          · exact bad_L cn1 w2 hx (fun z hz => if_neg (by omega)) hxn ⟨y, hor, Or.inr w3⟩
        · obtain ⟨w1, pr', ow', f', c', w2, w3, w4, w5, w6, w7, w8, w9⟩ := g4 rfl
          have hpy : clrN pr x y = some r := by unfold clrN; rw [if_neg hyx2]; exact (cn.2 r y e).2
          have cx := w5 r hpy
          have hpx : pr' x = none := by
            have := w6 x (by omega)
            rw [this]; exact hxn
          have s3 : St (zsI h2 88 x (iI r)) := s2.sI _ _ _
          have fm2 : Fm [88] h2 (zsI h2 88 x (iI r)) := Fm_sI _ _ _ (by simp)
          obtain ⟨h3, d3, u1, u2, u3, u4⟩ := fX12_owns_eq (w := (x : Int)) (r := r) s3 (w2.2.1.fm fm2 (by simp) (by simp)) hrl (Or.inr (by omega))
          refine ⟨true, h3, ?_, (((o2.mono m2).tr g2).tr (fm2.mono m1)).tr (u2.mono m2), fun j hj => by rw [u2.I (by simp), fm2.I (by simp), g3 j hj, o2.I (by simp)], by unfold Dn; rw [u2.I (by simp), fm2.I (by simp)]; exact w1, fun z => (by cases z), fun _ => ⟨_, _, _, d3, w2.set u2 u4, by rw [u3]; split <;> omega, cx.last hx hF hpx, fun z hz => ?_, updN_at _ _ _, fun z hz => ?_⟩⟩
          · exact hrun.trans ((hj true rfl).trans (by rw [if_neg (by decide)]; exact settles_68 s0 s2 (by omega) u1))
          · by_cases c2 : z = x
            · rw [c2, updN_at]; rfl
            · rw [updN_ne _ _ c2]
              by_cases c3 : z = y
              · rw [c3]; exact w9
              · rw [w8 z c3]; unfold clrN; rw [if_neg c2]; exact prf z hz
          · rw [updN_ne _ _ (by omega), w6 z (by omega)]; unfold clrN; rw [if_neg (by omega)]
