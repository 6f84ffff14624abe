/-! the class's reader: rules and evenings into what is told -/
def erw (t : Tk) (s : Nat → Nat) (m : Nat) : Nat := rowN (tn t) s (tsh t) * tT t + m
/-- the class's state while it reads -/
def CS (h : Zh) (ts : Nat) (tx : Nat → Int) (n p : Nat) (S : PS) : Prop := RD h tx n p ∧ (ts = 13 ∨ ts = 19) ∧ zR h 2 4 = some ts ∧ zI h ts 0 = iI (bI (Pbg S)) ∧ (Pbg S = true → Dk h (ts + 1) (Ptk S)) ∧ zI h ts 3 = iI (Prc S) ∧ (∀ i, i < Prc S → zI h (ts + 2) i = iI (Pru S i) ∧ zI h 10 i = iI (skp tx n (Pnm S i)) ∧ zI h 11 i = iI (wl tx n (Pnm S i))) ∧ zI h (ts + 3) 2 = iI (Pel S) ∧ zI h (ts + 3) 3 = iI 0 ∧ ∀ e, e < Pel S → zI h (ts + 4) e = iI (hix (Ptk S) (Pec S e)) ∧ zI h (ts + 5) e = iI (erw (Ptk S) (Pes S e) (Pet S e))
def EvK (t : Tk) (c s : Nat → Nat) (m : Nat) : Prop := (∀ i, i < tk t → c i < tn t) ∧ dst c (tk t) ∧ (∀ i, i < tsh t → s i < tn t) ∧ dst s (tsh t) ∧ m < tT t
/-- what a state of the text keeps -/
def PSk (n : Nat) (S : PS) : Prop := (Pbg S = true → Tok (Ptk S)) ∧ (Pbg S = false → Prc S = 0 ∧ Pel S = 0) ∧ Prc S ≤ 4 ∧ (∀ i, i < Prc S → Pru S i ≤ 21 ∧ Pnm S i ≤ n) ∧ Pel S ≤ 9 ∧ ∀ e, e < Pel S → EvK (Ptk S) (Pec S e) (Pes S e) (Pet S e)
def cl6 (ts : Nat) : List Nat := [2, 10, 11, 12, ts, ts + 1, ts + 2, ts + 3, ts + 4, ts + 5]
theorem readRule_c {h : Zh} {ts : Nat} {tx : Nat → Int} {n p : Nat} {S : PS} (cs : CS h ts tx n p S) (ok : PSk n S) : CRt (fX7_readRule 2 h) h [2, 10, 11, ts, ts + 2] 0 (pR tx n S p) (fun S' p' w h' => w = iI 1 ∧ CS h' ts tx n p' S') := by
  obtain ⟨q, hts, r4, bg, dk, t3, ru, l2, l3, ev⟩ := cs
  obtain ⟨-, -, rc4, rk, -, -⟩ := ok
  have k2 := sK2 q.1
  obtain ⟨kt, rt1, rt2, -, kd, kr, lr, -⟩ := tdS q.1 hts
  have m2 : ts ∉ [2] := by simp <;> omega
  unfold fX7_readRule pR cB
  rw [zlet_eq, if_pos k2, r4, Option.bind_some, if_pos kt, bg]
  cases e : Pbg S
  · obtain ⟨hg, g1, g2, g3, g4⟩ := fail_c q 6
    rw [if_pos (by decide), if_neg (by decide), bn_er, bn_er]
    exact CRt.er ((zc_of g1 _).trans rfl) (g2.mono (by simp)) g3 g4
  · rw [if_neg (by decide), if_pos rfl, Option.bind_some, if_pos kt, t3]
    by_cases c : Prc S < 4
    · have c' : iI (Prc S : Int) < (4 : Int32) := by rw [show (4 : Int32) = iI 4 from rfl, iI_lt ⟨by omega, by omega⟩ ⟨by decide, by decide⟩]; omega
      rw [if_pos c, if_pos c', bn_rt]
      show CRt _ _ _ _ (bn (cM tx n S (tkN tx n p)) fun _ p => bn (pK tx n (tkN tx n p)) fun k q => rt (addR S p k) q) _
      obtain ⟨h4, s1, s2, s3⟩ := step_c q
      rw [s1, Option.bind_some]
      refine cr_st s2 (by simp) ?_
      have r44 : zR h4 2 4 = some ts := by rw [s2.R]; exact r4
      refine cr_bn (readName_c (S := S) s3 hts r44 (by rw [s2.o m2]; exact t3) c (fun i hi => ⟨by rw [s2.o (by decide)]; exact (ru i hi).2.1, by rw [s2.o (by decide)]; exact (ru i hi).2.2, (rk i hi).2⟩)) (by simp) (fun h' _ => ⟨h', by rw [if_pos (by decide)]; rfl, Fm.rf, rfl, rfl⟩) ?_
      intro a p1 w h7 ea ⟨ew, ep, q7, n1, n2, nj⟩ f7
      subst ew ep
      rw [if_neg (by decide)]
      refine cr_bn (readKind_c q7) (by simp) (fun h' _ => ⟨h', by rw [if_neg (by decide)]; rfl, Fm.rf, rfl, rfl⟩) ?_
      intro k p2 w h9 ek ⟨ew, q9⟩ f9
      subst ew
      have kb : k ≤ 21 := by
        have : Pz (pK tx n (tkN tx n (tkN tx n p))) (fun k _ => k ≤ 21) := by
          unfold pK
          refine Pz.ite (fun _ => Pz.rt (by decide)) (fun _ => Pz.ite (fun _ => Pz.rt (by decide)) (fun _ => ?_))
          refine Pz.bn (Q := fun _ _ => True) (fun _ _ _ => trivial) fun a q _ => ?_
          unfold pWd
          refine Pz.bn (Q := fun k _ => k ≤ 3) ?_ fun k q hk => ?_
          · cases e : kpW tx n q with
            | none => exact Pz.er
            | some k => exact Pz.rt (kp_b e)
          · refine Pz.bn (Q := fun _ _ => True) (fun _ _ _ => trivial) fun a q _ => ?_
            refine Pz.bn (Q := fun k _ => k ≤ 4) ?_ fun t q ht => Pz.rt (by omega)
            cases e : tlW tx n q with
            | none => exact Pz.er
            | some k => exact Pz.rt (tl_b e)
        exact this k p2 ek
      have nt7 : ts ∉ [2, 10, 11] := by simp <;> omega
      have R9 : zR h9 = zR h := by rw [f9.R, f7.R, s2.R]
      have o9 : ∀ x, x ∉ [2, 10, 11] → ∀ j, zI h9 x j = zI h x j := fun x hx j => by
        have hx2 : x ∉ [2] := fun z => hx (by simp at z; simp [z])
        rw [f9.o hx2, f7.o hx, s2.o hx2]
      have t39 : zI h9 ts 3 = iI (Prc S) := by rw [o9 ts nt7]; exact t3
      have n29 : ts + 2 ∉ [2, 10, 11] := by simp <;> omega
      rw [if_pos (nneg (by omega)).2, R9, r4, Option.bind_some, if_pos kt, rt2, Option.bind_some, Option.bind_some, if_pos kt, if_pos kr, t39, if_pos (by rw [lr]; exact zin_N c (by decide)), clN (by omega), zlet_eq]
      have g1 : Fm [ts + 2] h9 (zsI h9 (ts + 2) (Prc S) (iI k)) := Fm_sI _ _ _ (by simp)
      have v1 : zI (zsI h9 (ts + 2) (Prc S) (iI k)) (ts + 2) (Prc S) = iI k := by rw [zI_sI, z2_at]
      have vj : ∀ j, j ≠ Prc S → zI (zsI h9 (ts + 2) (Prc S) (iI k)) (ts + 2) j = zI h9 (ts + 2) j := fun j hj => by rw [zI_sI, z2_k _ _ _ hj]
      generalize zsI h9 (ts + 2) (Prc S) (iI k) = hA at *
      have ntA : ts ∉ [ts + 2] := by simp
      have e1 : iI (Prc S : Int) + (1 : Int32) = iI ((Prc S + 1 : Nat) : Int) := by
        rw [show (1 : Int32) = iI 1 from rfl, iI_add]
        rfl
      rw [show zR hA 2 4 = some ts by rw [g1.R, R9]; exact r4, Option.bind_some, if_pos kt, zlet_eq, g1.o ntA, t39, e1]
      have g2 : Fm [ts] hA (zsI hA ts 3 (iI ((Prc S + 1 : Nat) : Int))) := Fm_sI _ _ _ (by simp)
      have v2 : zI (zsI hA ts 3 (iI ((Prc S + 1 : Nat) : Int))) ts 3 = iI ((Prc S + 1 : Nat) : Int) := by rw [zI_sI, z2_at]
      have wj : ∀ j, j ≠ 3 → zI (zsI hA ts 3 (iI ((Prc S + 1 : Nat) : Int))) ts j = zI hA ts j := fun j hj => by rw [zI_sI, z2_k _ _ _ hj]
      generalize zsI hA ts 3 (iI ((Prc S + 1 : Nat) : Int)) = hB at *
      have nB : ∀ x, x ≠ ts → x ∉ [ts] := fun x hx => by simp [hx]
      have nA : ∀ x, x ≠ ts + 2 → x ∉ [ts + 2] := fun x hx => by simp [hx]
      refine CRt.rt (h' := hB) (w := iI 1) rfl ((g1.mono (by simp)).tr (g2.mono (by simp))) ⟨rfl, (q9.fm g1 (by simp <;> omega) (by simp <;> omega)).fm g2 (by simp <;> omega) (by simp <;> omega), hts, by rw [g2.R, g1.R, R9]; exact r4, ?_, fun _ => ?_, v2, fun i hi => ?_, ?_, ?_, fun e he => ?_⟩
      · show zI hB ts 0 = iI (bI (Pbg S))
        rw [wj 0 (by decide), g1.o ntA, o9 ts nt7]; exact bg
      · have d1 := dk e
        show Dk hB (ts + 1) (Ptk S)
        have nd : ts + 1 ∉ [2, 10, 11] := by simp <;> omega
        exact ((((d1.fm s2 (by simp <;> omega)).fm f7 nd).fm f9 (by simp <;> omega)).fm g1 (by simp)).fm g2 (by simp)
      · have hi' : i < Prc S + 1 := hi
        show zI hB (ts + 2) i = iI ((if i = Prc S then k else Pru S i : Nat) : Int) ∧ zI hB 10 i = iI (skp tx n (if i = Prc S then tkN tx n p else Pnm S i)) ∧ zI hB 11 i = iI (wl tx n (if i = Prc S then tkN tx n p else Pnm S i))
        have n10 : ∀ j, zI hB 10 j = zI h7 10 j := fun j => by rw [g2.o (nB 10 (by omega)), g1.o (nA 10 (by omega)), f9.o (by decide)]
        have n11 : ∀ j, zI hB 11 j = zI h7 11 j := fun j => by rw [g2.o (nB 11 (by omega)), g1.o (nA 11 (by omega)), f9.o (by decide)]
        rw [g2.o (nB (ts + 2) (by omega)), n10, n11]
        by_cases ci : i = Prc S
        · rw [ci, if_pos rfl, if_pos rfl]
          exact ⟨v1, n1, n2⟩
        · rw [if_neg ci, if_neg ci, vj i ci, o9 _ n29, (nj i ci).1, (nj i ci).2, s2.o (by decide), s2.o (by decide)]
          exact ru i (by omega)
      · rw [g2.o (nB _ (by omega)), g1.o (nA _ (by omega)), o9 _ (by simp <;> omega)]; exact l2
      · rw [g2.o (nB _ (by omega)), g1.o (nA _ (by omega)), o9 _ (by simp <;> omega)]; exact l3
      · rw [g2.o (nB (ts + 4) (by omega)), g1.o (nA (ts + 4) (by omega)), o9 (ts + 4) (by simp <;> omega), g2.o (nB (ts + 5) (by omega)), g1.o (nA (ts + 5) (by omega)), o9 (ts + 5) (by simp <;> omega)]
        exact ev e he
    · have c' : ¬ iI (Prc S : Int) < (4 : Int32) := by rw [show (4 : Int32) = iI 4 from rfl, iI_lt ⟨by omega, by omega⟩ ⟨by decide, by decide⟩]; omega
      rw [if_neg c, if_neg c', bn_er, bn_er]
      obtain ⟨hg, g1, g2, g3, g4⟩ := fail_c q 5
      exact CRt.er ((zc_of g1 _).trans rfl) (g2.mono (by simp)) g3 g4
theorem handNumber_r {h : Zh} {t : Tk} {d r : Nat} {w : Nat → Nat} (tok : Tok t) (dk : Dk h d t) (hd : r ≠ d) (kr : zK h r = 100) (lr : zL h r = 5) (hw : ∀ i, i < tk t → zI h r i = iI (w i) ∧ w i < tn t) (hdst : dst w (tk t)) : ∃ h', fX0_handNumber d r h = some (iI (hix t w), h') ∧ Fm [r] h h' := by
  obtain ⟨bn4, bn12, bu1, bu4, bnu, bk2, bk5, bkn, bp1, bp2, bpk, bH, bsp, bs1, bs4, bT1, bT16, bR1, bR2, bH1, bff, bff1⟩ := tok.b
  obtain ⟨-, hr, -⟩ := hix_ok tok (fun i hi => (hw i hi).2) hdst
  have f6 := dk.f6
  cases e : tst t
  · rw [e] at f6
    have e1 := fX0_handNumber_she (d := d) (r := r) (n := tn t) (k := tk t) (L := 5) (w := w) (h := h) dk.fK kr lr (by decide) hd dk.f0 dk.f3 f6 bn12 (by omega) bk5 bk5 hw hdst
    have e2 : pch (tn t) (tk t) - 1 - bhd (tn t) (tk t) (srt w (tk t)) (tk t) = (hix t w : Int) := by
      rw [← hr]
      unfold rnk
      rw [e, if_pos (by rfl), bhd_congr (s := trg t w) (v := srt w (tk t)) (tk t) (fun i _ => by unfold trg; rw [e]; rfl)]
    rw [e2] at e1
    exact ⟨_, e1, Fm_aI _ _ (by simp)⟩
  · rw [e] at f6
    have e1 := fX0_handNumber_str (d := d) (r := r) (n := tn t) (k := tk t) (L := 5) (w := w) (h := h) dk.fK kr lr (by decide) dk.f0 dk.f3 f6 bn12 bk5 bk5 hw hdst
    have e2 : ((rowN (tn t) w (tk t) : Nat) : Int) = (hix t w : Int) := by
      rw [← hr]
      unfold rnk
      rw [e, if_neg (by decide), rowN_congr (w := trg t w) (v := w) (tk t) (fun i _ => by unfold trg; rw [e]; rfl)]
    rw [e2] at e1
    exact ⟨h, e1, Fm.rf⟩
/-- unlike cards -/
theorem pC_p {tx : Nat → Int} {n bd : Nat} (hb : 1 ≤ bd) : ∀ (r i m : Nat) (c : Nat → Nat) (p : Nat), p ≤ n → (∀ j, j < i → c j < bd ∧ m.testBit (c j) = true) → dst c i → Pz (pC tx n bd r i m c p) (fun c q => q ≤ n ∧ (∀ j, j < i + r → c j < bd) ∧ dst c (i + r))
  | 0, i, m, c, p, hp, h1, h2 => Pz.rt ⟨hp, fun j hj => (h1 j hj).1, h2⟩
  | r + 1, i, m, c, p, hp, h1, h2 => by
    show Pz (bn (pCm tx n i p) fun _ p => bn (cV tx n bd m p) fun v p => pC tx n bd r (i + 1) (m ||| 2 ^ v) (fun j => if j = i then v else c j) (tkN tx n p)) _
    refine Pz.bn (Q := fun _ q => q ≤ n) ?_ fun _ p2 hp2 => ?_
    · unfold pCm
      exact Pz.ite (fun _ => Pz.rt hp) (fun _ => Pz.ite (fun _ => Pz.rt (nx_b tx hp).2) (fun _ => Pz.er))
    · refine Pz.bn (Q := fun v q => q ≤ n ∧ v < bd ∧ m.testBit v = false) ?_ fun v p3 hv => ?_
      · unfold cV
        refine Pz.bn cN_p fun v q hv => ?_
        refine Pz.ite (fun _ => Pz.er) (fun cc => Pz.rt ⟨by omega, by omega, ?_⟩)
        cases e : m.testBit v
        · rfl
        · exact absurd e cc
      · obtain ⟨a1, a2, a3⟩ := hv
        have := pC_p (tx := tx) (n := n) hb r (i + 1) (m ||| 2 ^ v) (fun j => if j = i then v else c j) (tkN tx n p3) (nx_b tx a1).2 (fun j hj => ?_) ?_
        · rw [show i + (r + 1) = i + 1 + r by omega]
          exact this
        · by_cases ej : j = i
          · rw [if_pos ej]
            exact ⟨a2, by rw [Nat.testBit_or, Nat.testBit_two_pow_self, Bool.or_true]⟩
          · rw [if_neg ej]
            exact ⟨(h1 j (by omega)).1, by rw [Nat.testBit_or, (h1 j (by omega)).2, Bool.true_or]⟩
        · intro a b hab hb2
          show (if a = i then v else c a) ≠ (if b = i then v else c b)
          by_cases eb : b = i
          · rw [if_neg (show a ≠ i by omega), if_pos eb]
            intro ee
            have := (h1 a (by omega)).2
            rw [ee, a3] at this
            cases this
          · rw [if_neg (show a ≠ i by omega), if_neg eb]
            exact h2 a b hab (by omega)
theorem pC_q {tx : Nat → Int} {n bd k p : Nat} (hb : 1 ≤ bd) (hp : p ≤ n) : Pz (pC tx n bd k 0 0 (fun _ => 0) p) (fun c q => q ≤ n ∧ (∀ j, j < k → c j < bd) ∧ dst c k) := by
  have := pC_p (tx := tx) (n := n) hb k 0 0 (fun _ => 0) p hp (fun j hj => by omega) (fun i j h1 h2 => by omega)
  rw [Nat.zero_add] at this
  exact this
theorem pL_p {tx : Nat → Int} {n bd : Nat} (hb : 1 ≤ bd) : ∀ (f m p : Nat), p ≤ n → m < 2 ^ bd → Pz (pL tx n bd f m p) (fun m q => q ≤ n ∧ m < 2 ^ bd)
  | 0, m, p, _, _ => Pz.er
  | f + 1, m, p, hp, hm => by
    show Pz (bn (cV tx n bd m p) fun v p => if tkK tx n (tkN tx n p) = 4 then pL tx n bd f (m ||| 2 ^ v) (tkN tx n (tkN tx n p)) else rt (m ||| 2 ^ v) (tkN tx n p)) _
    refine Pz.bn (Q := fun v q => q ≤ n ∧ v < bd) ?_ fun v p3 hv => ?_
    · unfold cV
      exact Pz.bn cN_p fun v q hv => Pz.ite (fun _ => Pz.er) (fun cc => Pz.rt ⟨by omega, by omega⟩)
    · have b1 := nx_b tx hv.1
      have b2 := nx_b tx b1.2
      exact Pz.ite (fun _ => pL_p hb f _ _ b2.2 (or_lt hm hv.2)) (fun _ => Pz.rt ⟨b1.2, or_lt hm hv.2⟩)
theorem pI_p {tx : Nat → Int} {n p : Nat} {t : Tk} (tok : Tok t) (hp : p ≤ n) : Pz (pI tx n t p) (fun m q => q ≤ n ∧ m < tT t) := by
  obtain ⟨bn4, bn12, bu1, bu4, bnu, bk2, bk5, bkn, bp1, bp2, bpk, bH, bsp, bs1, bs4, bT1, bT16, bR1, bR2, bH1, bff, bff1⟩ := tok.b
  unfold pI
  refine Pz.ite (fun c => ?_) (fun _ => Pz.rt ⟨hp, by omega⟩)
  have : tT t = 2 ^ tsh t := by unfold tT; rw [c.1, if_pos rfl]
  rw [this]
  exact pL_p (by omega) _ _ _ (nx_b tx hp).2 (Nat.two_pow_pos _)
