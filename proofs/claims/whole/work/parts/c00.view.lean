/-! the state of both, as one view -/
def Vw : Type := Nat × (Nat → Int) × Nat × Int × Bool × Nat × Tk × Nat × (Nat → Nat) × Nat × (Nat → Nat) × (Nat → Nat) × Nat × Nat × (Nat → Nat) × (Nat → Nat) × (Nat → Nat → Nat) × (Nat → Nat → Nat)
def Vw.tl (v : Vw) : Nat := v.1
def Vw.tp (v : Vw) : Nat → Int := v.2.1
def Vw.ft (v : Vw) : Nat := v.2.2.1
def Vw.fp (v : Vw) : Int := v.2.2.2.1
def Vw.on (v : Vw) : Bool := v.2.2.2.2.1
def Vw.td (v : Vw) : Nat := v.2.2.2.2.2.1
def Vw.t (v : Vw) : Tk := v.2.2.2.2.2.2.1
def Vw.rc (v : Vw) : Nat := v.2.2.2.2.2.2.2.1
def Vw.ru (v : Vw) : Nat → Nat := v.2.2.2.2.2.2.2.2.1
def Vw.el (v : Vw) : Nat := v.2.2.2.2.2.2.2.2.2.1
def Vw.eh (v : Vw) : Nat → Nat := v.2.2.2.2.2.2.2.2.2.2.1
def Vw.er (v : Vw) : Nat → Nat := v.2.2.2.2.2.2.2.2.2.2.2.1
def Vw.sd (v : Vw) : Nat := v.2.2.2.2.2.2.2.2.2.2.2.2.1
def Vw.ic (v : Vw) : Nat := v.2.2.2.2.2.2.2.2.2.2.2.2.2.1
def Vw.il (v : Vw) : Nat → Nat := v.2.2.2.2.2.2.2.2.2.2.2.2.2.2.1
def Vw.ik (v : Vw) : Nat → Nat := v.2.2.2.2.2.2.2.2.2.2.2.2.2.2.2.1
def Vw.ih (v : Vw) : Nat → Nat → Nat := v.2.2.2.2.2.2.2.2.2.2.2.2.2.2.2.2.1
def Vw.ir (v : Vw) : Nat → Nat → Nat := v.2.2.2.2.2.2.2.2.2.2.2.2.2.2.2.2.2
def mkV (tl : Nat) (tp : Nat → Int) (ft : Nat) (fp : Int) (on : Bool) (td : Nat) (t : Tk) (rc : Nat) (ru : Nat → Nat) (el : Nat) (eh : Nat → Nat) (er : Nat → Nat) (sd : Nat) (ic : Nat) (il : Nat → Nat) (ik : Nat → Nat) (ih : Nat → Nat → Nat) (ir : Nat → Nat → Nat) : Vw := (tl, tp, ft, fp, on, td, t, rc, ru, el, eh, er, sd, ic, il, ik, ih, ir)
def LA : List Nat := [4, 5, 6, 10, 12, 20, 24, 30, 40, 42, 56, 60, 72, 84, 90, 96, 105, 110, 112, 120, 132, 140, 144, 168, 180, 210, 220, 252, 264, 280, 336, 360, 420, 480, 495, 504, 560, 600, 630, 660, 720, 756, 840, 990, 1200, 1260, 1320, 1512, 1680, 2520, 3024, 3360, 5040, 6720, 7560, 15120, 30240]
def LB : List Nat := [4, 5, 6, 7, 8, 9, 10, 11, 12, 14, 16, 18, 20, 22, 24, 30, 42, 48, 56, 60, 72, 80, 90, 110, 120, 132, 168, 192, 210, 224, 288, 336, 360, 440, 480, 504, 528, 720, 840, 960, 1680, 1920, 2688, 3024, 4032, 5040, 5760, 13440, 26880, 48384, 80640]
/-- what longer arrays can still cost -/
def rmL : List Nat → Nat → Nat
  | [], _ => 0
  | x :: L, a => (if a < x then x else 0) + rmL L a
theorem rmL_mono : ∀ (L : List Nat) {a b : Nat}, a ≤ b → rmL L b ≤ rmL L a
  | [], _, _, _ => Nat.le_refl _
  | x :: L, a, b, h => by
    have := rmL_mono L h
    show (if b < x then x else 0) + rmL L b ≤ (if a < x then x else 0) + rmL L a
    by_cases c : b < x
    · rw [if_pos c, if_pos (by omega)]; omega
    · rw [if_neg c]; omega
theorem rmL_grw : ∀ (L : List Nat) {a v : Nat}, v ∈ L → a < v → rmL L v + v ≤ rmL L a
  | x :: L, a, v, hv, h => by
    show (if v < x then x else 0) + rmL L v + v ≤ (if a < x then x else 0) + rmL L a
    rcases List.mem_cons.mp hv with e | hm
    · have := rmL_mono L (show a ≤ v by omega)
      rw [← e, if_neg (Nat.lt_irrefl _), if_pos h]; omega
    · have := rmL_grw L hm h
      by_cases c : v < x
      · rw [if_pos c, if_pos (by omega)]; omega
      · rw [if_neg c]; omega
theorem rmL_max {L : List Nat} {a v : Nat} (hv : v ∈ L) : rmL L (max a v) + grw a v ≤ rmL L a := by
  unfold grw
  by_cases c : a < v
  · rw [if_pos c, Nat.max_eq_right (by omega)]; exact rmL_grw L hv c
  · rw [if_neg c, Nat.max_eq_left (by omega)]; omega
def lac (n k p : Nat) (st hd : Bool) : Bool := !(decide (4 ≤ n) && decide (2 ≤ k) && decide (k ≤ n) && decide (1 ≤ p) && decide (p < k) && decide (hnd n k (!st) ≤ 300) && !(st && hd)) || LA.contains (hnd n k (!st) * hnd k (k - p) (!(!st && !hd)))
theorem lac_k : ∀ n : Nat, n < 13 → ∀ k : Nat, k < 6 → ∀ p : Nat, p < 3 → (lac n k p true true && lac n k p true false && lac n k p false true && lac n k p false false) = true := by decide +kernel
def lbc (n k p : Nat) (st ti : Bool) : Bool := !(decide (4 ≤ n) && decide (2 ≤ k) && decide (k ≤ n) && decide (1 ≤ p) && decide (p < k) && decide (hnd n k (!st) ≤ 300)) || LB.contains (ff n (k - p) * (if ti then 2 ^ (k - p) else 1))
theorem lbc_k : ∀ n : Nat, n < 13 → ∀ k : Nat, k < 6 → ∀ p : Nat, p < 3 → (lbc n k p true true && lbc n k p true false && lbc n k p false true && lbc n k p false false) = true := by decide +kernel
theorem LA_k {n k p : Nat} {st hd : Bool} (h1 : n < 13) (h2 : k < 6) (h3 : p < 3) (a1 : 4 ≤ n) (a2 : 2 ≤ k) (a3 : k ≤ n) (a4 : 1 ≤ p) (a5 : p < k) (a6 : hnd n k (!st) ≤ 300) (a7 : st = true → hd = false) : LA.contains (hnd n k (!st) * hnd k (k - p) (!(!st && !hd))) = true := by
  have h := lac_k n h1 k h2 p h3
  simp only [Bool.and_eq_true] at h
  have h' : lac n k p st hd = true := by
    cases st <;> cases hd
    · exact h.2
    · exact h.1.2
    · exact h.1.1.2
    · exact h.1.1.1
  unfold lac at h'
  have a8 : (st && hd) = false := by
    cases e : st
    · rfl
    · rw [a7 e]; rfl
  rw [decide_eq_true a1, decide_eq_true a2, decide_eq_true a3, decide_eq_true a4, decide_eq_true a5, decide_eq_true a6, a8] at h'
  exact h'
theorem LB_k {n k p : Nat} {st ti : Bool} (h1 : n < 13) (h2 : k < 6) (h3 : p < 3) (a1 : 4 ≤ n) (a2 : 2 ≤ k) (a3 : k ≤ n) (a4 : 1 ≤ p) (a5 : p < k) (a6 : hnd n k (!st) ≤ 300) : LB.contains (ff n (k - p) * (if ti then 2 ^ (k - p) else 1)) = true := by
  have h := lbc_k n h1 k h2 p h3
  simp only [Bool.and_eq_true] at h
  have h' : lbc n k p st ti = true := by
    cases st <;> cases ti
    · exact h.2
    · exact h.1.2
    · exact h.1.1.2
    · exact h.1.1.1
  unfold lbc at h'
  rw [decide_eq_true a1, decide_eq_true a2, decide_eq_true a3, decide_eq_true a4, decide_eq_true a5, decide_eq_true a6] at h'
  exact h'
theorem LA_in {t : Tk} (tok : Tok t) (hH : tH t ≤ 300) : tH t * pcn t ∈ LA := by
  obtain ⟨bn4, bn12, bu1, bu4, bnu, bk2, bk5, bkn, bp1, bp2, bpk, bH, bsp, bs1, bs4, bT1, bT16, bR1, bR2, bH1, bff, bff1⟩ := tok.b
  exact List.contains_iff_mem.mp (LA_k (by omega) (by omega) (by omega) bn4 bk2 bkn bp1 bpk hH tok.2.2.2.2.2.2.2.2.2.2.2.2)
theorem LB_in {t : Tk} (tok : Tok t) (hH : tH t ≤ 300) : tR t ∈ LB := by
  obtain ⟨bn4, bn12, bu1, bu4, bnu, bk2, bk5, bkn, bp1, bp2, bpk, bH, bsp, bs1, bs4, bT1, bT16, bR1, bR2, bH1, bff, bff1⟩ := tok.b
  exact List.contains_iff_mem.mp (LB_k (n := tn t) (k := tk t) (p := tp t) (st := tst t) (ti := tti t) (by omega) (by omega) (by omega) bn4 bk2 bkn bp1 bpk hH)
theorem rm_b : rmL LA 0 ≤ 100000 ∧ rmL LB 0 ≤ 210000 := by decide +kernel
def Pot (h : Zh) (CR OW : Nat) : Nat := zS h + rmL LA (zL h CR) + rmL LB (zL h OW)
theorem Pot_cst {h h' : Zh} {t : Tk} {CR OW CR' OW' : Nat} (tok : Tok t) (c : Cst h h' t CR OW CR' OW') : Pot h' CR' OW' ≤ Pot h CR OW := by
  obtain ⟨-, c, -⟩ := c
  unfold Pot
  rcases c with ⟨c1, c2, c3⟩ | ⟨c0, c1, c2, c3⟩
  · rw [c1, c2, c3]; exact Nat.le_refl _
  · have h1 := rmL_max (a := zL h CR) (LA_in tok c0)
    have h2 := rmL_max (a := zL h OW) (LB_in tok c0)
    rw [c1, c2, c3]
    omega
theorem Pot_ok {h : Zh} {t : Tk} {CR OW : Nat} (tok : Tok t) (hH : tH t ≤ 300) : zS h + grw (zL h CR) (tH t * pcn t) + grw (zL h OW) (tR t) ≤ Pot h CR OW := by
  have h1 := rmL_max (a := zL h CR) (LA_in tok hH)
  have h2 := rmL_max (a := zL h OW) (LB_in tok hH)
  unfold Pot
  omega
/-- evenings and seed, as a diary of the class holds them -/
def DV (h : Zh) (d l s : Nat) (hs rs : Nat → Nat) : Prop := zI h d 2 = iI l ∧ zI h d 3 = iI s ∧ ∀ e, e < l → zI h (d + 1) e = iI (hs e) ∧ zI h (d + 2) e = iI (rs e)
def VOK (v : Vw) : Prop := (v.tl ≤ 900 ∧ ∀ j, j < v.tl → -128 ≤ v.tp j ∧ v.tp j < 128) ∧ (v.td = 13 ∨ v.td = 19) ∧ v.el ≤ 20 ∧ v.sd ≤ 65536 ∧ v.ic ≤ 3 ∧ (v.on = false → v.el = 0 ∧ v.sd = 0 ∧ v.ic = 0) ∧ (v.on = true → Tok v.t ∧ v.rc ≤ 4 ∧ (∀ i, i < v.rc → v.ru i ≤ 21) ∧ (∀ e, e < v.el → v.eh e < tH v.t ∧ v.er e < tR v.t) ∧ ∀ k, k < v.ic → v.il k ≤ 20 ∧ v.ik k ≤ 65536 ∧ ∀ e, e < v.il k → v.ih k e < tH v.t ∧ v.ir k e < tR v.t)
/-- the class's side -/
def KC (h : Zh) (v : Vw) (u tr ra : Nat) : Prop := St h ∧ zI h 0 1 = iI v.tl ∧ (∀ j, j < v.tl → zI h 1 j = iI (v.tp j)) ∧ zI h 0 9 = iI v.ft ∧ zI h 0 10 = iI v.fp ∧ zR h 0 3 = some v.td ∧ zR h 0 4 = some (32 - v.td) ∧ zI h 0 7 = iI v.ic ∧ DV h (v.td + 3) v.el v.sd v.eh v.er ∧ (∀ k, k < v.ic → DV h (66 + 3 * k) (v.il k) (v.ik k) (v.ih k) (v.ir k)) ∧ tr < zN h ∧ ra < zN h ∧ (∀ i, i < 4 → zI h (54 + 2 * i) 0 = iI i) ∧ ∃ CR OW se sp, (CR ≠ tr ∧ OW ≠ tr ∧ CR ≠ ra ∧ OW ≠ ra) ∧ se ≤ 600 * u ∧ sp ≤ 4 * u ∧ zN h ≤ 101 + 4 * u ∧ Pot h CR OW ≤ 440000 + 4 * u ∧ PI h CR OW se ∧ RS0 h sp ∧ (v.on = false → zI h v.td 0 = iI 0 ∧ zI h v.td 3 = iI 0 ∧ ∀ j, j < 11 → zI h (v.td + 1) j = iI 0) ∧ (v.on = true → ∃ rdy, LG h v.td v.t v.rc v.ru CR OW se sp rdy)
/-- the model's side -/
def KM (h : Zh) (v : Vw) (tr ra : Nat) : Prop := St h ∧ zI h 76 6 = iI v.tl ∧ (∀ j, j < v.tl → zI h 77 j = iI (v.tp j)) ∧ zI h 76 13 = iI v.ft ∧ (v.on = false → zR h 76 3 = none) ∧ (v.on = true → MD h v.t tr ra v.rc v.ru ∧ zI h 76 43 = iI v.el ∧ zI h 76 45 = iI v.sd ∧ zI h 76 44 = iI v.ic ∧ (∀ e, e < v.el → zI h 94 e = iI (v.eh e) ∧ zI h 95 e = iI (v.er e)) ∧ ∀ k, k < v.ic → zI h 98 k = iI (v.il k) ∧ zI h 99 k = iI (v.ik k) ∧ ∀ e, e < v.il k → zI h 96 (20 * k + e) = iI (v.ih k e) ∧ zI h 97 (20 * k + e) = iI (v.ir k e))
def CFr (tr ra : Nat) (i : Nat) : Prop := i < 76 ∨ (101 ≤ i ∧ i ≠ tr ∧ i ≠ ra)
/-- the model's side stays under what the class does -/
theorem KM.fc {h h' : Zh} {v : Vw} {tr ra : Nat} (q : KM h v tr ra) (s : St h') (f : Fc (CFr tr ra) h h') (htr : tr < zN h) (hra : ra < zN h) : KM h' v tr ra := by
  obtain ⟨a1, a2, a3, a4, a5, a6⟩ := q
  have hN := a1.1
  have nA : ∀ i, 76 ≤ i → i < 101 → ¬ CFr tr ra i := fun i h1 h2 m => by unfold CFr at m; omega
  have e76 := f.I (i := 76) (by omega) (nA 76 (by omega) (by omega))
  have r76 := f.R (i := 76) (by omega) (nA 76 (by omega) (by omega))
  refine ⟨s, by rw [e76]; exact a2, by rw [f.I (by omega) (nA 77 (by omega) (by omega))]; exact a3, by rw [e76]; exact a4, by rw [r76]; exact a5, fun on => ?_⟩
  obtain ⟨b1, b2, b3, b4, b5, b6⟩ := a6 on
  obtain ⟨c1, c2, c3, c4, c5, c6, c7, c8, c9⟩ := b1
  have ntr : ¬ CFr tr ra tr := fun m => by unfold CFr at m; have := c1.2.1; omega
  have nra : ¬ CFr tr ra ra := fun m => by unfold CFr at m; omega
  refine ⟨⟨⟨s, c1.2.1, by rw [r76]; exact c1.2.2.1, c1.2.2.2.1.fc f htr ntr, c1.2.2.2.2.1.fc f hN (nA 76 (by omega) (by omega)) (nA 78 (by omega) (by omega)), ?_⟩, by rw [f.R htr ntr]; exact c2, c3, by rw [f.K hra]; exact c4, by rw [f.L hra]; exact c5, by rw [f.I htr ntr]; exact c6, c7, by rw [f.I hra nra]; exact c8, ?_⟩, by rw [e76]; exact b2, by rw [e76]; exact b3, by rw [e76]; exact b4, by rw [f.I (by omega) (nA 94 (by omega) (by omega)), f.I (by omega) (nA 95 (by omega) (by omega))]; exact b5, by rw [f.I (by omega) (nA 98 (by omega) (by omega)), f.I (by omega) (nA 99 (by omega) (by omega)), f.I (by omega) (nA 96 (by omega) (by omega)), f.I (by omega) (nA 97 (by omega) (by omega))]; exact b6⟩
  · have := c1.2.2.2.2.2
    unfold Cdm at this ⊢
    rw [e76, f.I (by omega) (nA 83 (by omega) (by omega))]
    exact this
  · unfold KT at c9 ⊢
    rw [e76, f.I (by omega) (nA 92 (by omega) (by omega))]
    exact c9
theorem DV.fc {A : Nat → Prop} {h h' : Zh} {d l s : Nat} {hs rs : Nat → Nat} (q : DV h d l s hs rs) (f : Fc A h h') (hN : d + 2 < zN h) (h0 : ¬ A d) (h1 : ¬ A (d + 1)) (h2 : ¬ A (d + 2)) : DV h' d l s hs rs := by
  unfold DV
  rw [f.I (by omega) h0, f.I (by omega) h1, f.I hN h2]
  exact q
/-- the class's side stays under what the model does -/
theorem KC.fc {h h' : Zh} {v : Vw} {u u' tr ra tr' ra' : Nat} (ok : VOK v) (q : KC h v u tr ra) (s : St h') (f : Fc (fun i => 76 ≤ i) h h') (hu : u ≤ u') (hN : zN h' ≤ zN h + 4 * (u' - u)) (hS : zS h' ≤ zS h + 4 * (u' - u)) (h1 : tr' < zN h' ∧ ra' < zN h') (h2 : (tr' = tr ∨ zN h ≤ tr') ∧ (ra' = ra ∨ zN h ≤ ra')) : KC h' v u' tr' ra' := by
  obtain ⟨a1, a2, a3, a4, a5, a6, a7, a8, a9, a10, a11, a12, a13, CR, OW, se, sp, b1, b2, b3, b4, b5, b6, b7, b8, b9⟩ := q
  have hN1 := a1.1
  have e : ∀ i, i < 76 → zI h' i = zI h i := fun i hi => f.I (by omega) (by omega)
  have hic := ok.2.2.2.2.1
  have htd := ok.2.1
  have lc := b6.2.2.2.2.2.2.2.2.2.1
  have lo := b6.2.2.2.2.2.2.2.2.2.2.1
  refine ⟨s, by rw [e 0 (by omega)]; exact a2, by rw [e 1 (by omega)]; exact a3, by rw [e 0 (by omega)]; exact a4, by rw [e 0 (by omega)]; exact a5, by rw [f.R (by omega) (by omega)]; exact a6, by rw [f.R (by omega) (by omega)]; exact a7, by rw [e 0 (by omega)]; exact a8, a9.fc f (by omega) (by omega) (by omega) (by omega), fun k hk => (a10 k hk).fc f (by omega) (by omega) (by omega) (by omega), h1.1, h1.2, fun i hi => by rw [e _ (by omega)]; exact a13 i hi, CR, OW, se, sp, by omega, by omega, by omega, by omega, ?_, b6.fc f hN1 (by omega) (by omega), b7.fc f hN1 (by omega) (by omega), fun q => ?_, fun q => ?_⟩
  · unfold Pot at b5 ⊢
    rw [f.L lc, f.L lo]
    omega
  · rw [e _ (by omega), e _ (by omega)]
    exact b8 q
  · obtain ⟨rdy, lg⟩ := b9 q
    exact ⟨rdy, lg.fc s f (fun i hi => by omega)⟩
