/-! the model's reader: it goes on behind a fault, and changes nothing then -/
def FR (S : List Nat) (h h' : Zh) : Prop := Fj (76 :: S) h h' ∧ ∀ j, j < 8 ∨ 14 < j → zI h' 76 j = zI h 76 j
theorem FR.rf {S : List Nat} {h : Zh} : FR S h h := ⟨Fj.rf, fun _ _ => rfl⟩
theorem FR.tr {S : List Nat} {a b c : Zh} (p : FR S a b) (q : FR S b c) : FR S a c := ⟨p.1.tr q.1, fun j hj => (q.2 j hj).trans (p.2 j hj)⟩
theorem FR.mono {S T : List Nat} {a b : Zh} (p : FR S a b) (hs : ∀ x, x ∈ S → x ∈ T) : FR T a b := ⟨p.1.mono (fun x hx => by
  rcases List.mem_cons.mp hx with e | m
  · rw [e]; simp
  · exact List.mem_cons_of_mem _ (hs x m)), p.2⟩
theorem FR.o {S : List Nat} {a b : Zh} (p : FR S a b) {x : Nat} (h76 : x ≠ 76) (hx : x ∉ S) (j : Nat) : zI b x j = zI a x j := by rw [p.1.I (by simp [h76, hx])]
theorem FR.oJ {S : List Nat} {a b : Zh} (p : FR S a b) {x : Nat} (h76 : x ≠ 76) (hx : x ∉ S) (j : Nat) : zJ b x j = zJ a x j := by rw [(p.1.2.2.2.2 x (by simp [h76, hx])).2]
theorem FR.K {S : List Nat} {a b : Zh} (p : FR S a b) : zK b = zK a := p.1.K
theorem FR.L {S : List Nat} {a b : Zh} (p : FR S a b) : zL b = zL a := p.1.L
theorem FR.R {S : List Nat} {a b : Zh} (p : FR S a b) : zR b = zR a := p.1.R
theorem FR.N {S : List Nat} {a b : Zh} (p : FR S a b) : zN b = zN a := p.1.N
def MR (tx : Nat → Int) (n : Nat) {α : Type} (h : Zh) (r : PR α) : Prop := St h ∧ ((∃ f q, r = er f q ∧ zI h 76 9 = iI 5 ∧ zI h 76 13 = iI f ∧ zI h 76 14 = iI q) ∨ ∃ a p, r = rt a p ∧ RdM h tx n p ∧ zI h 76 13 = iI 0)
theorem MR.fr {tx : Nat → Int} {n : Nat} {α : Type} {S : List Nat} {h h' : Zh} {r : PR α} (q : MR tx n h r) (f : Fj S h h') (h76 : 76 ∉ S) (h77 : 77 ∉ S) : MR tx n h' r := by
  obtain ⟨s, q⟩ := q
  refine ⟨s.fj f, ?_⟩
  rcases q with ⟨x, y, e, a, b, c⟩ | ⟨a, p, e, ⟨b1, ⟨c1, c2, c3⟩, d⟩, c⟩
  · exact Or.inl ⟨x, y, e, by rw [f.I h76]; exact a, by rw [f.I h76]; exact b, by rw [f.I h76]; exact c⟩
  · refine Or.inr ⟨a, p, e, ⟨b1, ⟨c1, ?_, ?_⟩, ?_⟩, ?_⟩
    · rw [f.I h76]; exact c2
    · rw [f.I h77]; exact c3
    · rw [f.I h76, (f.2.2.2.2 76 h76).2]; exact d
    · rw [f.I h76]; exact c
def sh {α : Type} (r : PR α) : PR Unit := bn r fun _ p => rt () p
theorem mr_e {tx : Nat → Int} {n : Nat} {α : Type} {h : Zh} {f q : Nat} (s : St h) (h9 : zI h 76 9 = iI 5) (h13 : zI h 76 13 = iI f) (h14 : zI h 76 14 = iI q) : MR tx n h (er f q : PR α) := ⟨s, Or.inl ⟨f, q, rfl, h9, h13, h14⟩⟩
theorem mr_r {tx : Nat → Int} {n : Nat} {α : Type} {h : Zh} {a : α} {p : Nat} (s : St h) (rd : RdM h tx n p) (h13 : zI h 76 13 = iI 0) : MR tx n h (rt a p) := ⟨s, Or.inr ⟨a, p, rfl, rd, h13⟩⟩
theorem er_in {α : Type} {f q f' q' : Nat} (h : (er f q : PR α) = er f' q') : f = f' ∧ q = q' := by
  unfold er at h
  injection h with h
  injection h with h1 h2
  exact ⟨h1, h2⟩
theorem mr_ei {tx : Nat → Int} {n : Nat} {α : Type} {h : Zh} {f q : Nat} (m : MR tx n h (er f q : PR α)) : St h ∧ zI h 76 9 = iI 5 ∧ zI h 76 13 = iI f ∧ zI h 76 14 = iI q := by
  obtain ⟨s, m⟩ := m
  rcases m with ⟨x, y, e, a⟩ | ⟨a, p, e, -⟩
  · obtain ⟨e1, e2⟩ := er_in e
    rw [e1, e2]
    exact ⟨s, a⟩
  · exact (er_rt e).elim
theorem mr_ri {tx : Nat → Int} {n : Nat} {α : Type} {h : Zh} {a : α} {p : Nat} (m : MR tx n h (rt a p)) : St h ∧ RdM h tx n p ∧ zI h 76 13 = iI 0 := by
  obtain ⟨s, m⟩ := m
  rcases m with ⟨x, y, e, -⟩ | ⟨b, q, e, c⟩
  · exact (rt_er e).elim
  · obtain ⟨-, e2⟩ := rt_in e
    rw [e2]
    exact ⟨s, c⟩
theorem mr_sh {tx : Nat → Int} {n : Nat} {α β : Type} {h : Zh} {r : PR α} {r' : PR β} (m : MR tx n h r) (e : sh r = sh r') : MR tx n h r' := by
  rcases r.cs with ⟨f, q, rfl⟩ | ⟨a, p, rfl⟩
  · obtain ⟨s, a1, a2, a3⟩ := mr_ei m
    rcases r'.cs with ⟨f', q', rfl⟩ | ⟨a, p, rfl⟩
    · obtain ⟨e1, e2⟩ := er_in (show (er f q : PR Unit) = er f' q' from e)
      rw [← e1, ← e2]
      exact mr_e s a1 a2 a3
    · exact (er_rt (show (er f q : PR Unit) = rt () p from e)).elim
  · obtain ⟨s, a1, a2⟩ := mr_ri m
    rcases r'.cs with ⟨f', q', rfl⟩ | ⟨a', p', rfl⟩
    · exact (rt_er (show (rt () p : PR Unit) = er f' q' from e)).elim
    · obtain ⟨-, e2⟩ := rt_in (show (rt () p : PR Unit) = rt () p' from e)
      rw [← e2]
      exact mr_r s a1 a2
theorem fr_76 {h h' : Zh} (f : Fj [76] h h') (j : ∀ j, ¬ M6 j → j ≠ 13 → j ≠ 14 → zI h' 76 j = zI h 76 j) : FR [] h h' := ⟨f, fun i hi => j i (by unfold M6; omega) (by omega) (by omega)⟩
theorem goes_m {tx : Nat → Int} {n : Nat} {α : Type} {h : Zh} {r : PR α} (m : MR tx n h r) (hk : ∀ a p, r = rt a p → tkK tx n p ≠ 5) : ∃ h', fX12_goesOn 76 h = some h' ∧ FR [] h h' ∧ MR tx n h' (bn r (pS tx n)) := by
  rcases r.cs with ⟨f, q, rfl⟩ | ⟨a, p, rfl⟩
  · obtain ⟨s, h9, -⟩ := mr_ei m
    exact ⟨h, fX12_goesOn_5 s h9, FR.rf, m⟩
  · obtain ⟨s, rd, h13⟩ := mr_ri m
    have k5 := hk a p rfl
    have hb := nx_b tx rd.1
    obtain ⟨h', e1, e2, e3, e4⟩ := fX12_goesOn_eq s rd.2.1 hb.2 (rd.2.2.2.2.1 k5) rd.2.2.1 (mS_b _)
    exact ⟨h', e1, fr_76 e2 (fun j a _ _ => e3 j a), mr_r (s.fj e2) e4 (by rw [e3 13 (by unfold M6; omega)]; exact h13)⟩
theorem flaw_m {tx : Nat → Int} {n : Nat} {α β : Type} {h : Zh} {r : PR α} (m : MR tx n h r) (f : Nat) : ∃ h', fX12_flaw 76 (iI f) h = some h' ∧ FR [] h h' ∧ MR tx n h' (bn r fun _ p => (er f (skp tx n p) : PR β)) := by
  rcases r.cs with ⟨g, q, rfl⟩ | ⟨a, p, rfl⟩
  · obtain ⟨s, h9, h13, h14⟩ := mr_ei m
    refine ⟨h, ?_, FR.rf, mr_e s h9 h13 h14⟩
    unfold fX12_flaw
    rw [zlet_eq, if_pos (sK76 s), if_pos (show zI h 76 9 = (5 : Int32) from h9)]
  · obtain ⟨s, rd, h13⟩ := mr_ri m
    have h9 := rd.2.2.1
    have h10 := rd.2.2.2.1
    have hb := mS_b (tkK tx n p)
    have n9 : ¬ zI h 76 9 = (5 : Int32) := by rw [h9, show (5 : Int32) = iI 5 from rfl, iI_eq ⟨by omega, by omega⟩ ⟨by decide, by decide⟩]; omega
    have fm : Fm [76] h (zsI (zsI (zsI h 76 13 (iI f)) 76 14 (iI (skp tx n p))) 76 9 (iI 5)) := ((Fm_sI _ _ _ (by simp)).tr (Fm_sI _ _ _ (by simp))).tr (Fm_sI _ _ _ (by simp))
    refine ⟨zsI (zsI (zsI h 76 13 (iI f)) 76 14 (iI (skp tx n p))) 76 9 (iI 5), ?_, fr_76 fm.j (fun j a b c => ?_), mr_e (s.fm fm) (by rw [zI_sI, z2_at]) ?_ ?_⟩
    · unfold fX12_flaw
      rw [zlet_eq, if_pos (sK76 s), if_neg n9, zlet_eq, zlet_eq, zlet_eq, show zI (zsI h 76 13 (iI f)) 76 10 = iI (skp tx n p) by rw [zI_sI, z2_k _ _ _ (by decide)]; exact h10]
      rfl
    · unfold M6 at a
      rw [zI_sI, z2_k _ _ _ (by omega), zI_sI, z2_k _ _ _ c, zI_sI, z2_k _ _ _ b]
    · rw [zI_sI, z2_k _ _ _ (by decide), zI_sI, z2_k _ _ _ (by decide), zI_sI, z2_at]
    · rw [zI_sI, z2_k _ _ _ (by decide), zI_sI, z2_at]
/-- a fault, if something is not so -/
theorem cf_m {tx : Nat → Int} {n : Nat} {α : Type} {h : Zh} {r : PR α} (m : MR tx n h r) (f : Nat) {C : Prop} (c : α → Nat → Bool) (hC : ∀ a p, r = rt a p → (C ↔ c a p = true)) : ∃ h', (C → h' = h) ∧ (¬ C → fX12_flaw 76 (iI f) h = some h') ∧ FR [] h h' ∧ MR tx n h' (bn r fun a p => if c a p = true then rt a p else er f (skp tx n p)) := by
  by_cases q : C
  · refine ⟨h, fun _ => rfl, fun z => absurd q z, FR.rf, ?_⟩
    rcases r.cs with ⟨g, y, rfl⟩ | ⟨a, p, rfl⟩
    · exact m
    · rw [bn_rt, if_pos ((hC a p rfl).mp q)]
      exact m
  · obtain ⟨h', e1, e2, e3⟩ := flaw_m (β := α) m f
    refine ⟨h', fun z => absurd z q, fun _ => e1, e2, ?_⟩
    rcases r.cs with ⟨g, y, rfl⟩ | ⟨a, p, rfl⟩
    · exact e3
    · rw [bn_rt, if_neg (fun z => q ((hC a p rfl).mpr z))]
      exact e3
def ewB (tx : Nat → Int) (n s : Nat) {α : Type} (r : PR α) : Bool := match r with
  | Sum.inl _ => false
  | Sum.inr a => isw tx n a.2 s
theorem isWord_m {tx : Nat → Int} {n s : Nat} {α : Type} {h : Zh} {r : PR α} (m : MR tx n h r) (hs : s < 25) : fX12_isWord 76 s h = some (iI (bI (ewB tx n s r)), h) := by
  have hk : ∀ s : Nat, s < 25 → s < ztxt.length ∧ wln s ≤ 8 := by decide +kernel
  rcases r.cs with ⟨g, q, rfl⟩ | ⟨a, p, rfl⟩
  · obtain ⟨st, h9, -⟩ := mr_ei m
    unfold fX12_isWord
    rw [zlet_eq, if_pos (sK76 st), h9, if_neg (by decide)]
    rfl
  · obtain ⟨st, rd, -⟩ := mr_ri m
    exact fX12_isWord_eq st rd (hk s hs).1 (hk s hs).2
theorem needs_m {tx : Nat → Int} {n s : Nat} {α : Type} {h : Zh} {r : PR α} (m : MR tx n h r) (hs : s < 25) : ∃ h', fX12_needs 76 s h = some h' ∧ FR [] h h' ∧ MR tx n h' (bn r fun _ p => pP tx n s p) := by
  have e0 := isWord_m m hs
  obtain ⟨h1, c1, c2, c3, c4⟩ := cf_m m 1 (C := ewB tx n s r = true) (fun _ p => isw tx n p s) (fun a p e => by rw [e]; exact Iff.rfl)
  obtain ⟨h2, g1, g2, g3⟩ := goes_m c4 (fun a p e => by
    rcases r.cs with ⟨g, q, rfl⟩ | ⟨a', p', rfl⟩
    · exact (er_rt e).elim
    · rw [bn_rt] at e
      split at e
      · rename_i hw
        obtain ⟨-, e2⟩ := rt_in e
        rw [← e2, isw_1 hw]; decide
      · exact (er_rt e).elim)
  refine ⟨h2, ?_, c3.tr g2, mr_sh g3 ?_⟩
  · unfold fX12_needs
    rw [zlet_eq, if_pos (sK76 m.1), e0, zc2_some]
    by_cases q : ewB tx n s r = true
    · rw [q, if_neg (by decide), ← c1 q, g1]
      rfl
    · rw [Bool.eq_false_iff.mpr q, if_pos (by decide), show fX12_flaw 76 (1 : Int32) h = some h1 from c2 q, Option.bind_some, g1]
      rfl
  · rcases r.cs with ⟨g, q, rfl⟩ | ⟨a', p', rfl⟩
    · rfl
    · simp only [bn_rt]
      unfold pP
      split <;> rfl
def vl {α : Type} (d : α) (r : PR α) : α := match r with
  | Sum.inl _ => d
  | Sum.inr a => a.1
theorem vl_er {α : Type} (d : α) (f q : Nat) : vl d (er f q) = d := rfl
theorem vl_rt {α : Type} (d a : α) (q : Nat) : vl d (rt a q) = a := rfl
theorem bounded_m {tx : Nat → Int} {n lo hi : Nat} {α : Type} {h : Zh} {r : PR α} (m : MR tx n h r) (hlo : lo < 1000) (hhi : hi < 1000) : ∃ h', fX12_bounded 76 (iI lo) (iI hi) h = some (iI ((vl lo (bn r fun _ p => cN tx n lo hi p) : Nat) : Int), h') ∧ FR [] h h' ∧ MR tx n h' (bn r fun _ p => cN tx n lo hi p) := by
  have k76 := sK76 m.1
  have j5 : ∀ {h1 : Zh}, zI h1 76 9 = iI 5 → jX12_bounded_33 h 76 (iI lo) h1 = some (iI lo, h1) := fun {h1} e => by
    unfold jX12_bounded_33
    rw [e, if_pos (by decide)]
  rcases r.cs with ⟨g, q, rfl⟩ | ⟨a, p, rfl⟩
  · obtain ⟨st, h9, h13, h14⟩ := mr_ei m
    obtain ⟨h1, f1, f2, f3⟩ := flaw_m (β := Nat) m 1
    obtain ⟨s1, g9, -⟩ := mr_ei (show MR tx n h1 (er g q : PR Nat) from f3)
    refine ⟨h1, ?_, f2, f3⟩
    unfold fX12_bounded
    rw [zlet_eq, if_pos k76, if_neg (by rw [h9]; decide), show fX12_flaw 76 (1 : Int32) h = some h1 from f1, Option.bind_some, j5 g9]
    rfl
  · obtain ⟨st, rd, h13⟩ := mr_ri m
    have h9 := rd.2.2.1
    rw [bn_rt]
    unfold cN
    by_cases c : tkK tx n p = 2
    · have h9' : zI h 76 9 = (3 : Int32) := by rw [h9, c]; rfl
      have h12 := rd.2.2.2.2.2.2.1 c
      obtain ⟨v1, v2⟩ := tkV_W c
      rw [v1] at h12
      rw [if_pos c]
      have e0 : fX12_in (iI (tkW tx n p)) (iI lo) (iI hi) h = some (iI (bI (decide (lo ≤ tkW tx n p ∧ tkW tx n p ≤ hi))), h) := by
        generalize tkW tx n p = y at *
        unfold fX12_in
        by_cases c1 : y < lo
        · rw [decide_eq_false (by omega)]
          simp (maxSteps := 1000000) (disch := (first | assumption | exact ne_b rfl | omega)) only [↓reduceIte, ↓zlet_eq, ↓bdR_sI, ↓bdR_sJ, ↓bdR_aI, zc2_some, Option.bind_some, ↓si_m1, ↓si_m2, ↓si_m3, iI_lit, iI_add, iI_sub, iI_mul, leT, leF, ltT, ltF, eqT, eqF, zinT, clI, Int.toNat_natCast, Int.reduceToNat, tN1, tNa, tN0, tNm, if_pos, if_neg, zI_sI, zI_sJ, zI_sR, zJ_sI, zJ_sJ, zJ_sR, zR_sI, zR_sJ, zR_sR, zK_sI, zK_sJ, zK_sR, zL_sI, zL_sJ, zL_sR, zI_aI, zJ_aI, zR_aI, zK_aI, zL_aI, z2_at, z2_a, z2_k, z1_self, z1_ne, true_and, and_true, bIt, bIf, Bool.false_eq_true, Bool.true_eq_false, eq_self, not_true_eq_false, not_false_eq_true]
          all_goals rfl
        · by_cases c2 : hi < y
          · rw [decide_eq_false (by omega)]
            simp (maxSteps := 1000000) (disch := (first | assumption | exact ne_b rfl | omega)) only [↓reduceIte, ↓zlet_eq, ↓bdR_sI, ↓bdR_sJ, ↓bdR_aI, zc2_some, Option.bind_some, ↓si_m1, ↓si_m2, ↓si_m3, iI_lit, iI_add, iI_sub, iI_mul, leT, leF, ltT, ltF, eqT, eqF, zinT, clI, Int.toNat_natCast, Int.reduceToNat, tN1, tNa, tN0, tNm, if_pos, if_neg, zI_sI, zI_sJ, zI_sR, zJ_sI, zJ_sJ, zJ_sR, zR_sI, zR_sJ, zR_sR, zK_sI, zK_sJ, zK_sR, zL_sI, zL_sJ, zL_sR, zI_aI, zJ_aI, zR_aI, zK_aI, zL_aI, z2_at, z2_a, z2_k, z1_self, z1_ne, true_and, and_true, bIt, bIf, Bool.false_eq_true, Bool.true_eq_false, eq_self, not_true_eq_false, not_false_eq_true]
            all_goals rfl
          · rw [decide_eq_true (by omega)]
            simp (maxSteps := 1000000) (disch := (first | assumption | exact ne_b rfl | omega)) only [↓reduceIte, ↓zlet_eq, ↓bdR_sI, ↓bdR_sJ, ↓bdR_aI, zc2_some, Option.bind_some, ↓si_m1, ↓si_m2, ↓si_m3, iI_lit, iI_add, iI_sub, iI_mul, leT, leF, ltT, ltF, eqT, eqF, zinT, clI, Int.toNat_natCast, Int.reduceToNat, tN1, tNa, tN0, tNm, if_pos, if_neg, zI_sI, zI_sJ, zI_sR, zJ_sI, zJ_sJ, zJ_sR, zR_sI, zR_sJ, zR_sR, zK_sI, zK_sJ, zK_sR, zL_sI, zL_sJ, zL_sR, zI_aI, zJ_aI, zR_aI, zK_aI, zL_aI, z2_at, z2_a, z2_k, z1_self, z1_ne, true_and, and_true, bIt, bIf, Bool.false_eq_true, Bool.true_eq_false, eq_self, not_true_eq_false, not_false_eq_true]
            all_goals rfl
      by_cases c2 : lo ≤ tkW tx n p ∧ tkW tx n p ≤ hi
      · rw [if_pos c2]
        refine ⟨h, ?_, FR.rf, mr_r st rd h13⟩
        rw [decide_eq_true c2] at e0
        unfold fX12_bounded
        rw [zlet_eq, if_pos k76, if_pos h9', h12, e0, zc2_some, if_neg (by decide)]
        unfold jX12_bounded_33
        rw [h9', if_neg (by decide), h12]
        rfl
      · rw [if_neg c2]
        obtain ⟨h1, f1, f2, f3⟩ := flaw_m (β := Nat) m 4
        obtain ⟨s1, g9, -⟩ := mr_ei (show MR tx n h1 (er 4 (skp tx n p) : PR Nat) from f3)
        refine ⟨h1, ?_, f2, f3⟩
        rw [decide_eq_false c2] at e0
        unfold fX12_bounded
        rw [zlet_eq, if_pos k76, if_pos h9', h12, e0, zc2_some, if_pos (by decide), show fX12_flaw 76 (4 : Int32) h = some h1 from f1, Option.bind_some, j5 g9]
        rfl
    · rw [if_neg c]
      obtain ⟨h1, f1, f2, f3⟩ := flaw_m (β := Nat) m 1
      obtain ⟨s1, g9, -⟩ := mr_ei (show MR tx n h1 (er 1 (skp tx n p) : PR Nat) from f3)
      refine ⟨h1, ?_, f2, f3⟩
      have n9 : ¬ zI h 76 9 = (3 : Int32) := by
        have hb := tkK_b tx n p
        have hm : ∀ k : Nat, k < 6 → k ≠ 2 → ¬ iI (mS k) = (3 : Int32) := by decide +kernel
        rw [h9]
        exact hm _ (by omega) c
      unfold fX12_bounded
      rw [zlet_eq, if_pos k76, if_neg n9, show fX12_flaw 76 (1 : Int32) h = some h1 from f1, Option.bind_some, j5 g9]
      rfl
theorem cN_k {tx : Nat → Int} {n lo hi : Nat} {α : Type} {r : PR α} {v q : Nat} (e : bn r (fun _ p => cN tx n lo hi p) = rt v q) : tkK tx n q = 2 ∧ lo ≤ v ∧ v ≤ hi := by
  rcases r.cs with ⟨f, y, rfl⟩ | ⟨a, p, rfl⟩
  · exact (er_rt e).elim
  · obtain ⟨a1, a2, a3, a4⟩ := cN_p v q e
    rw [a1]
    exact ⟨a3, a4⟩
theorem vl_cN {tx : Nat → Int} {n lo hi : Nat} {α : Type} {r : PR α} (h : lo ≤ hi) : lo ≤ vl lo (bn r fun _ p => cN tx n lo hi p) ∧ vl lo (bn r fun _ p => cN tx n lo hi p) ≤ hi := by
  rcases (bn r fun _ p => cN tx n lo hi p).cs with ⟨f, q, e⟩ | ⟨v, q, e⟩
  · rw [e, vl_er]; omega
  · have := cN_k e
    rw [e, vl_rt]; omega
theorem vl_pS {tx : Nat → Int} {n d : Nat} {r : PR Nat} : vl d (bn r (pS tx n)) = vl d r := by
  rcases r.cs with ⟨f, y, rfl⟩ | ⟨a, p, rfl⟩ <;> rfl
theorem part_e {tx : Nat → Int} {n s lo hi : Nat} {α : Type} {r : PR α} : bn (bn (bn r fun _ p => pP tx n s p) fun _ p => cN tx n lo hi p) (pS tx n) = bn r fun _ p => pQ tx n s lo hi p := by
  rw [bn_as, bn_as]
  rfl
theorem readPart_m {tx : Nat → Int} {n s lo hi : Nat} {α : Type} {h : Zh} {r : PR α} (m : MR tx n h r) (hs : s < 25) (hlo : lo < 1000) (hhi : hi < 1000) : ∃ h', fX12_readPart 76 s (iI lo) (iI hi) h = some (iI ((vl lo (bn r fun _ p => pQ tx n s lo hi p) : Nat) : Int), h') ∧ FR [] h h' ∧ MR tx n h' (bn r fun _ p => pQ tx n s lo hi p) := by
  obtain ⟨h1, a1, a2, a3⟩ := needs_m m hs
  obtain ⟨h2, b1, b2, b3⟩ := bounded_m (lo := lo) (hi := hi) a3 hlo hhi
  obtain ⟨h3, c1, c2, c3⟩ := goes_m b3 (fun a p e => by rw [(cN_k e).1]; decide)
  rw [part_e] at c3
  refine ⟨h3, ?_, a2.tr (b2.tr c2), c3⟩
  unfold fX12_readPart
  rw [zlet_eq, if_pos (sK76 m.1), a1, Option.bind_some, b1, zc2_some, c1, ← part_e, vl_pS]
  rfl
theorem vl_pQ {tx : Nat → Int} {n s lo hi : Nat} {α : Type} {r : PR α} (h : lo ≤ hi) : lo ≤ vl lo (bn r fun _ p => pQ tx n s lo hi p) ∧ vl lo (bn r fun _ p => pQ tx n s lo hi p) ≤ hi := by
  rw [← part_e, vl_pS]
  exact vl_cN h
theorem eats_m {tx : Nat → Int} {n s : Nat} {α : Type} {h : Zh} {r : PR α} (m : MR tx n h r) (hs : s < 25) : ∃ h', fX12_eatsWord 76 s h = some (iI (bI (ewB tx n s r)), h') ∧ FR [] h h' ∧ MR tx n h' (bn r fun a p => rt a (oN tx n p (isw tx n p s))) := by
  have e0 := isWord_m m hs
  rcases r.cs with ⟨f, y, rfl⟩ | ⟨a, p, rfl⟩
  · refine ⟨h, ?_, FR.rf, m⟩
    unfold fX12_eatsWord
    rw [zlet_eq, if_pos (sK76 m.1), e0]
    rfl
  · rw [bn_rt]
    have e1 : ewB tx n s (rt a p) = isw tx n p s := rfl
    rw [e1] at e0 ⊢
    unfold oN
    cases c : isw tx n p s
    · rw [c] at e0
      refine ⟨h, ?_, FR.rf, m⟩
      unfold fX12_eatsWord
      rw [zlet_eq, if_pos (sK76 m.1), e0]
      rfl
    · rw [c] at e0
      obtain ⟨h1, g1, g2, g3⟩ := goes_m m (fun a' p' e => by
        obtain ⟨-, e2⟩ := rt_in e
        rw [← e2, isw_1 c]; decide)
      refine ⟨h1, ?_, g2, g3⟩
      unfold fX12_eatsWord
      rw [zlet_eq, if_pos (sK76 m.1), e0, zc2_some, if_neg (by decide), g1]
      rfl
def esB (tx : Nat → Int) (n k : Nat) {α : Type} (r : PR α) : Bool := match r with
  | Sum.inl _ => false
  | Sum.inr a => decide (tkK tx n a.2 = k)
theorem sgn_k {tx : Nat → Int} {n p c k : Nat} {h : Zh} (hc : c = 59 ∧ k = 3 ∨ c = 44 ∧ k = 4) (rd : RdM h tx n p) : (zI h 76 9 = (4 : Int32) ∧ zI h 76 11 = iI c) ↔ tkK tx n p = k := by
  have h9 := rd.2.2.1
  have h11 := rd.2.2.2.2.2.2.2
  have hb := tkK_b tx n p
  rw [h9, h11]
  have hm : ∀ k : Nat, k < 6 → ((iI (mS k) = (4 : Int32) ∧ iI (if k = 3 then 59 else if k = 4 then 44 else 0) = iI ((59 : Nat) : Int)) ↔ k = 3) ∧ ((iI (mS k) = (4 : Int32) ∧ iI (if k = 3 then 59 else if k = 4 then 44 else 0) = iI ((44 : Nat) : Int)) ↔ k = 4) := by decide +kernel
  rcases hc with ⟨rfl, rfl⟩ | ⟨rfl, rfl⟩
  · exact (hm _ (by omega)).1
  · exact (hm _ (by omega)).2
theorem eatsS_m {tx : Nat → Int} {n c k : Nat} {α : Type} {h : Zh} {r : PR α} (m : MR tx n h r) (hc : c = 59 ∧ k = 3 ∨ c = 44 ∧ k = 4) : ∃ h', fX12_eatsSign 76 (iI c) h = some (iI (bI (esB tx n k r)), h') ∧ FR [] h h' ∧ MR tx n h' (bn r fun a p => rt a (if tkK tx n p = k then tkN tx n p else p)) := by
  rcases r.cs with ⟨f, y, rfl⟩ | ⟨a, p, rfl⟩
  · obtain ⟨st, h9, -⟩ := mr_ei m
    refine ⟨h, ?_, FR.rf, m⟩
    unfold fX12_eatsSign
    rw [zlet_eq, if_pos (sK76 m.1), h9, if_neg (by decide)]
    rfl
  · obtain ⟨st, rd, h13⟩ := mr_ri m
    have hk := sgn_k hc rd
    rw [bn_rt]
    show ∃ h', fX12_eatsSign 76 (iI c) h = some (iI (bI (decide (tkK tx n p = k))), h') ∧ _
    by_cases q : tkK tx n p = k
    · rw [if_pos q, decide_eq_true q]
      obtain ⟨h1, g1, g2, g3⟩ := goes_m m (fun a' p' e => by
        obtain ⟨-, e2⟩ := rt_in e
        rw [← e2, q]; omega)
      refine ⟨h1, ?_, g2, g3⟩
      obtain ⟨q1, q2⟩ := hk.mpr q
      unfold fX12_eatsSign
      rw [zlet_eq, if_pos (sK76 m.1), if_pos q1, if_pos q2]
      unfold jX12_eatsSign_21
      rw [if_neg (by decide), g1]
      rfl
    · rw [if_neg q, decide_eq_false q]
      refine ⟨h, ?_, FR.rf, m⟩
      unfold fX12_eatsSign
      rw [zlet_eq, if_pos (sK76 m.1)]
      by_cases q1 : zI h 76 9 = (4 : Int32)
      · rw [if_pos q1, if_neg (fun z => q (hk.mp ⟨q1, z⟩))]
        rfl
      · rw [if_neg q1]
        rfl
theorem needsS_m {tx : Nat → Int} {n : Nat} {α : Type} {h : Zh} {r : PR α} (m : MR tx n h r) : ∃ h', fX12_needsSign 76 (44 : Int32) h = some h' ∧ FR [] h h' ∧ MR tx n h' (bn r fun _ p => if tkK tx n p = 4 then rt () (tkN tx n p) else er 1 (skp tx n p) : PR Unit) := by
  obtain ⟨h1, c1, c2, c3, c4⟩ := cf_m m 1 (C := zI h 76 9 = (4 : Int32) ∧ zI h 76 11 = (44 : Int32)) (fun _ p => decide (tkK tx n p = 4)) (fun a p e => by
    rw [e] at m
    obtain ⟨st, rd, h13⟩ := mr_ri m
    rw [decide_eq_true_iff]
    exact sgn_k (c := 44) (Or.inr ⟨rfl, rfl⟩) rd)
  obtain ⟨h2, g1, g2, g3⟩ := goes_m c4 (fun a p e => by
    rcases r.cs with ⟨g, q, rfl⟩ | ⟨a', p', rfl⟩
    · exact (er_rt e).elim
    · rw [bn_rt] at e
      split at e
      · rename_i hw
        obtain ⟨-, e2⟩ := rt_in e
        rw [← e2, of_decide_eq_true hw]; decide
      · exact (er_rt e).elim)
  refine ⟨h2, ?_, c3.tr g2, mr_sh g3 ?_⟩
  · unfold fX12_needsSign
    rw [zlet_eq, if_pos (sK76 m.1)]
    by_cases q : zI h 76 9 = (4 : Int32)
    · rw [if_pos q]
      by_cases q2 : zI h 76 11 = (44 : Int32)
      · rw [if_pos q2, ← c1 ⟨q, q2⟩, g1]
        rfl
      · rw [if_neg q2, show fX12_flaw 76 (1 : Int32) h = some h1 from c2 (fun z => q2 z.2), Option.bind_some, g1]
        rfl
    · rw [if_neg q, show fX12_flaw 76 (1 : Int32) h = some h1 from c2 (fun z => q z.1), Option.bind_some, g1]
      rfl
  · rcases r.cs with ⟨g, q, rfl⟩ | ⟨a', p', rfl⟩
    · rfl
    · simp only [bn_rt, decide_eq_true_iff]
      split <;> rfl
