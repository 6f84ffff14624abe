/-! the model's reader: the trick's line -/
def RT (h : Zh) (tr : Nat) : Prop := zR h 76 4 = some tr ∧ 101 ≤ tr ∧ zK h tr = 11 ∧ zR h tr 10 = some (tr + 1) ∧ zR h tr 11 = some (tr + 2) ∧ zR h tr 12 = some (tr + 3) ∧ zR h tr 13 = some (tr + 4) ∧ zR h tr 14 = some (tr + 5) ∧ zK h (tr + 1) = 100 ∧ zL h (tr + 1) = 4 ∧ zK h (tr + 2) = 100 ∧ zL h (tr + 2) = 45 ∧ zK h (tr + 3) = 100 ∧ zL h (tr + 3) = 45 ∧ zK h (tr + 4) = 100 ∧ zL h (tr + 4) = 9 ∧ zK h (tr + 5) = 102 ∧ zL h (tr + 5) = 4
theorem RT.fj {S : List Nat} {h h' : Zh} {tr : Nat} (q : RT h tr) (f : Fj S h h') : RT h' tr := by
  unfold RT
  rw [f.R, f.K, f.L]
  exact q
theorem FR.sI {h : Zh} {x : Nat} (hx : x ≠ 76) (k : Nat) (v : Int32) : FR [x] h (zsI h x k v) := ⟨(Fm_sI _ _ _ (by simp)).j, fun j _ => by rw [zI_sI, z2_a _ _ _ _ (fun e => hx e.symm)]⟩
theorem MR.sI {tx : Nat → Int} {n : Nat} {α : Type} {h : Zh} {r : PR α} (m : MR tx n h r) {x : Nat} (h6 : x ≠ 76) (h7 : x ≠ 77) (k : Nat) (v : Int32) : MR tx n (zsI h x k v) r := m.fr (S := [x]) (Fm_sI _ _ _ (by simp)).j (by simp; omega) (by simp; omega)
theorem FR.w {S : List Nat} {a b : Zh} (f : FR S a b) {x : Nat} (hx : x ≠ 76) (hS : x ∈ S) (k : Nat) (v : Int32) : FR S a (zsI b x k v) := f.tr ((FR.sI hx k v).mono (by simp [hS]))
def TrG (h h' : Zh) (tr : Nat) (R : PR Tk) : Prop := (∀ T q, R = rt T q → Tr h' tr T) ∧ ∀ j, j = 5 ∨ j = 6 → zI h' tr j = zI h tr j
theorem tr199 {g h : Zh} {tx : Nat → Int} {n tr v1 v2 v3 v4 : Nat} {st hd : Bool} {α : Type} {r : PR α} (m : MR tx n h r) (q : RT h tr) (gk : zK g tr = 11) (h7 : zI h tr 7 = iI (bI st)) (h2 : zI h tr 2 = iI v3) (hv : v4 ≤ v3) : ∃ h', jX12_readTrick_199 g 76 (iI v1) (iI v2) (iI v3) (iI v4) (iI (bI hd)) tr h = some h' ∧ FR [tr] h h' ∧ MR tx n h' (bn r fun _ p => rt (v1, v2, v3, v4, st, hd, isw tx n p 8) (oN tx n p (isw tx n p 8)) : PR Tk) ∧ TrG h h' tr (bn r fun _ p => rt (v1, v2, v3, v4, st, hd, isw tx n p 8) (oN tx n p (isw tx n p 8))) := by
  have n76 : tr ≠ 76 := by have := q.2.1; omega
  have n77 : tr ≠ 77 := by have := q.2.1; omega
  have hb : iI (bI hd) = 0 ∨ iI (bI hd) = 1 := by
    cases hd
    · exact Or.inl rfl
    · exact Or.inr rfl
  unfold jX12_readTrick_199
  rw [if_pos gk, if_pos hb, zlet_eq]
  have m1 := m.sI n76 n77 8 (iI (bI hd))
  have f1 : FR [tr] h (zsI h tr 8 (iI (bI hd))) := FR.sI n76 _ _
  have v8 : zI (zsI h tr 8 (iI (bI hd))) tr 8 = iI (bI hd) := by rw [zI_sI, z2_at]
  have vj : ∀ j, j ≠ 8 → zI (zsI h tr 8 (iI (bI hd))) tr j = zI h tr j := fun j hj => by rw [zI_sI, z2_k _ _ _ hj]
  generalize zsI h tr 8 (iI (bI hd)) = hA at *
  obtain ⟨hB, b1, b2, b3⟩ := eats_m (s := 8) m1 (by decide)
  have hb2 : iI (bI (ewB tx n 8 r)) = 0 ∨ iI (bI (ewB tx n 8 r)) = 1 := by
    cases ewB tx n 8 r
    · exact Or.inl rfl
    · exact Or.inr rfl
  have R4 : zR hA 76 4 = some tr := by rw [f1.R]; exact q.1
  have R5 : ∀ h5, FR [tr] hB h5 → zR h5 76 4 = some tr := fun h5 f => by rw [f.R, b2.R]; exact R4
  rw [R4, Option.bind_some, b1, zc2_some, if_pos gk, if_pos hb2, zlet_eq]
  have m3 := b3.sI n76 n77 9 (iI (bI (ewB tx n 8 r)))
  have f3 : FR [tr] hB (zsI hB tr 9 (iI (bI (ewB tx n 8 r)))) := FR.sI n76 _ _
  have w9 : zI (zsI hB tr 9 (iI (bI (ewB tx n 8 r)))) tr 9 = iI (bI (ewB tx n 8 r)) := by rw [zI_sI, z2_at]
  have wj : ∀ j, j ≠ 9 → zI (zsI hB tr 9 (iI (bI (ewB tx n 8 r)))) tr j = zI hB tr j := fun j hj => by rw [zI_sI, z2_k _ _ _ hj]
  generalize zsI hB tr 9 (iI (bI (ewB tx n 8 r))) = hC at *
  have oB : ∀ j, zI hB tr j = zI hA tr j := fun j => b2.o n76 (by simp) j
  have fC : FR [tr] h hC := f1.tr ((b2.mono (by simp)).tr f3)
  have c56 : ∀ j, j = 5 ∨ j = 6 → zI hC tr j = zI h tr j := fun j hj => by rw [wj j (by omega), oB, vj j (by omega)]
  rcases r.cs with ⟨x, y, rfl⟩ | ⟨a, p, rfl⟩
  · obtain ⟨-, h9, -⟩ := mr_ei (show MR tx n hC (er x y : PR α) from m3)
    rw [if_pos (show zI hC 76 9 = (5 : Int32) from h9)]
    exact ⟨hC, rfl, fC, mr_sh m3 rfl, fun T q e => (er_rt e).elim, c56⟩
  · obtain ⟨sC, rd, h13⟩ := mr_ri (show MR tx n hC (rt a (oN tx n p (isw tx n p 8)) : PR α) from m3)
    have h9 := rd.2.2.1
    have hmb := mS_b (tkK tx n (oN tx n p (isw tx n p 8)))
    have n9 : ¬ zI hC 76 9 = (5 : Int32) := by rw [h9, show (5 : Int32) = iI 5 from rfl, iI_eq ⟨by omega, by omega⟩ ⟨by decide, by decide⟩]; omega
    have es : iI (v3 : Int) - iI (v4 : Int) = iI ((v3 - v4 : Nat) : Int) := by
      rw [iI_sub]
      exact congrArg iI (by omega)
    rw [if_neg n9, R5 _ f3, Option.bind_some, if_pos gk, zlet_eq]
    have g1 : FR [tr] hC (zsI hC tr 0 (iI v1)) := FR.rf.w n76 (by simp) _ _
    have g2 : FR [tr] hC (zsI (zsI hC tr 0 (iI v1)) tr 1 (iI v2)) := g1.w n76 (by simp) _ _
    have g3 : FR [tr] hC (zsI (zsI (zsI hC tr 0 (iI v1)) tr 1 (iI v2)) tr 3 (iI v4)) := g2.w n76 (by simp) _ _
    rw [R5 _ (f3.tr g1), Option.bind_some, if_pos gk, zlet_eq, R5 _ (f3.tr g2), Option.bind_some, if_pos gk, zlet_eq, R5 _ (f3.tr g3), Option.bind_some, if_pos gk, zlet_eq, es]
    refine ⟨_, rfl, fC.tr (g3.w n76 (by simp) _ _), mr_sh ((((m3.sI n76 n77 _ _).sI n76 n77 _ _).sI n76 n77 _ _).sI n76 n77 _ _) rfl, fun T y e => ?_, fun j hj => ?_⟩
    · obtain ⟨e1, -⟩ := rt_in e
      rw [← e1]
      refine ⟨?_, ?_, ?_, ?_, ?_, ?_, ?_, ?_, ?_⟩
      · show zK hC tr = 11
        rw [fC.K]; exact q.2.2.1
      · rw [zI_sI, z2_k _ _ _ (by decide), zI_sI, z2_k _ _ _ (by decide), zI_sI, z2_k _ _ _ (by decide), zI_sI, z2_at]; rfl
      · rw [zI_sI, z2_k _ _ _ (by decide), zI_sI, z2_k _ _ _ (by decide), zI_sI, z2_at]; rfl
      · rw [zI_sI, z2_k _ _ _ (by decide), zI_sI, z2_k _ _ _ (by decide), zI_sI, z2_k _ _ _ (by decide), zI_sI, z2_k _ _ _ (by decide), wj 2 (by decide), oB, vj 2 (by decide)]
        exact h2
      · rw [zI_sI, z2_k _ _ _ (by decide), zI_sI, z2_at]; rfl
      · rw [zI_sI, z2_at]; rfl
      · rw [zI_sI, z2_k _ _ _ (by decide), zI_sI, z2_k _ _ _ (by decide), zI_sI, z2_k _ _ _ (by decide), zI_sI, z2_k _ _ _ (by decide), wj 7 (by decide), oB, vj 7 (by decide)]
        exact h7
      · rw [zI_sI, z2_k _ _ _ (by decide), zI_sI, z2_k _ _ _ (by decide), zI_sI, z2_k _ _ _ (by decide), zI_sI, z2_k _ _ _ (by decide), wj 8 (by decide), oB]
        exact v8
      · rw [zI_sI, z2_k _ _ _ (by decide), zI_sI, z2_k _ _ _ (by decide), zI_sI, z2_k _ _ _ (by decide), zI_sI, z2_k _ _ _ (by decide)]
        exact w9
    · rw [zI_sI, z2_k _ _ _ (by omega), zI_sI, z2_k _ _ _ (by omega), zI_sI, z2_k _ _ _ (by omega), zI_sI, z2_k _ _ _ (by omega)]
      exact c56 j hj
theorem TrG.st {h h1 h' : Zh} {tr : Nat} {R R' : PR Tk} (q : TrG h1 h' tr R) (e : ∀ j, j = 5 ∨ j = 6 → zI h1 tr j = zI h tr j) (eR : R = R') : TrG h h' tr R' := ⟨by rw [← eR]; exact q.1, fun j hj => (q.2 j hj).trans (e j hj)⟩
theorem tr167 {g h : Zh} {tx : Nat → Int} {n tr v1 v2 v3 v4 : Nat} {st : Bool} {α : Type} {r : PR α} (m : MR tx n h r) (hk : ∀ a p, r = rt a p → tkK tx n p ≠ 5) (q : RT h tr) (gk : zK g tr = 11) (h7 : zI h tr 7 = iI (bI st)) (h2 : zI h tr 2 = iI v3) (hv : v4 ≤ v3) : ∃ h', jX12_readTrick_167 g 76 (iI v1) (iI v2) (iI v3) (iI v4) h = some h' ∧ FR [tr] h h' ∧ MR tx n h' (bn (bn r (pS tx n)) fun _ p => bn (pX tx n st p) fun w p => rt (v1, v2, v3, v4, st, w.1, w.2) p : PR Tk) ∧ TrG h h' tr (bn (bn r (pS tx n)) fun _ p => bn (pX tx n st p) fun w p => rt (v1, v2, v3, v4, st, w.1, w.2) p) := by
  have n76 : tr ≠ 76 := by have := q.2.1; omega
  obtain ⟨hA, a1, a2, a3⟩ := goes_m m hk
  have qA := q.fj a2.1
  have oA : ∀ j, zI hA tr j = zI h tr j := fun j => a2.o n76 (by simp) j
  unfold jX12_readTrick_167
  rw [a1, Option.bind_some, qA.1, Option.bind_some, Option.bind_some, if_pos gk, oA 7, h7]
  have key : ∀ hd hB, FR [] hA hB → MR tx n hB (bn (bn r (pS tx n)) fun a p => rt a (oN tx n p (!st && isw tx n p 7))) → (∀ a p, bn r (pS tx n) = rt a p → hd = (!st && isw tx n p 7)) → ∃ h', jX12_readTrick_199 g 76 (iI v1) (iI v2) (iI v3) (iI v4) (iI (bI hd)) tr hB = some h' ∧ FR [tr] h h' ∧ MR tx n h' (bn (bn r (pS tx n)) fun _ p => bn (pX tx n st p) fun w p => rt (v1, v2, v3, v4, st, w.1, w.2) p : PR Tk) ∧ TrG h h' tr (bn (bn r (pS tx n)) fun _ p => bn (pX tx n st p) fun w p => rt (v1, v2, v3, v4, st, w.1, w.2) p) := by
    intro hd hB fB mB ehd
    have oB : ∀ j, zI hB tr j = zI h tr j := fun j => (fB.o n76 (by simp) j).trans (oA j)
    obtain ⟨h', c1, c2, c3, c4⟩ := tr199 (g := g) (v1 := v1) (v2 := v2) (v3 := v3) (v4 := v4) (st := st) (hd := hd) mB (qA.fj fB.1) gk (by rw [oB]; exact h7) (by rw [oB]; exact h2) hv
    have eR : (bn (bn (bn r (pS tx n)) fun a p => rt a (oN tx n p (!st && isw tx n p 7))) fun _ p => rt (v1, v2, v3, v4, st, hd, isw tx n p 8) (oN tx n p (isw tx n p 8)) : PR Tk) = bn (bn r (pS tx n)) fun _ p => bn (pX tx n st p) fun w p => rt (v1, v2, v3, v4, st, w.1, w.2) p := by
      rcases (bn r (pS tx n)).cs with ⟨x, y, e⟩ | ⟨a, p, e⟩
      · rw [e]; rfl
      · rw [e]
        rw [ehd a p e]
        rfl
    refine ⟨h', c1, (a2.mono (by simp)).tr ((fB.mono (by simp)).tr c2), by rw [← eR]; exact c3, c4.st (fun j _ => oB j) eR⟩
  cases st
  · rw [if_pos (by decide)]
    obtain ⟨hB, b1, b2, b3⟩ := eats_m (s := 7) a3 (by decide)
    rw [b1, zc2_some]
    have ee : ∀ a p, bn r (pS tx n) = rt a p → ewB tx n 7 (bn r (pS tx n)) = (!false && isw tx n p 7) := fun a p e => by rw [e]; rfl
    cases c : ewB tx n 7 (bn r (pS tx n))
    · rw [if_pos (by decide)]
      exact key false hB b2 b3 (fun a p e => by rw [← ee a p e, c])
    · rw [if_neg (by decide)]
      exact key true hB b2 b3 (fun a p e => by rw [← ee a p e, c])
  · rw [if_neg (by decide)]
    refine key false hA FR.rf (mr_sh a3 ?_) (fun a p e => rfl)
    rcases (bn r (pS tx n)).cs with ⟨x, y, e⟩ | ⟨a, p, e⟩
    · rw [e]; rfl
    · rw [e]; rfl
theorem hOf_m {tr n k : Nat} {st : Bool} {h : Zh} (hk : zK h tr = 11) (h2 : zI h tr 2 = iI k) (h7 : zI h tr 7 = iI (bI st)) (hn : n ≤ 12) (hk5 : k ≤ 5) (hkn : k ≤ n) : fX11_handsOf tr (iI n) h = some (jI (hnd n k (!st)), h) := by
  have h1 := hnd_pos n (by omega) k (by omega) hkn
  have h3 := (ff_ok n (by omega) k (by omega)).2 hkn
  unfold fX11_handsOf hnd
  cases st
  · have e0 := fX12_setsOf_eq (n := n) (k := k) (by omega) (by omega) h
    have e1 : (((pch n k).toNat : Nat) : Int) = pch n k := Int.toNat_of_nonneg h1.2.2
    rw [zlet_eq, if_pos hk, h7, if_pos (by decide), h2, e0, zc2_some]
    show some (jI (pch n k), h) = some (jI (((pch n k).toNat : Nat) : Int), h)
    rw [e1]
  · have e0 := fX12_rowsOf_eq (n := (n : Int)) (k := k) ⟨by omega, by omega⟩ (by omega) h
    rw [zlet_eq, if_pos hk, h7, if_neg (by decide), h2, e0, zc2_some]
    show some (jI (pfall n k), h) = some (jI ((ff n k : Nat) : Int), h)
    rw [h3.2]
theorem tr117 {g h : Zh} {tx : Nat → Int} {n tr v1 v2 v3 v4 : Nat} {α : Type} {r : PR α} (m : MR tx n h r) (hk : ∀ a p, r = rt a p → tkK tx n p ≠ 5) (q : RT h tr) (gk : zK g tr = 11) (hv : v4 ≤ v3) (h12 : v1 ≤ 12) (h5 : v3 ≤ 5) (h31 : v3 ≤ v1) : ∃ h', jX12_readTrick_117 g 76 (iI v1) (iI v2) (iI v3) (iI v4) h = some h' ∧ FR [tr] h h' ∧ MR tx n h' (bn r fun _ p => bn (bn (if hnd v1 v3 (!isw tx n p 5) ≤ 2000 then rt (isw tx n p 5) p else er 7 (skp tx n p)) (pS tx n)) fun st p => bn (pX tx n st p) fun w p => rt (v1, v2, v3, v4, st, w.1, w.2) p : PR Tk) ∧ TrG h h' tr (bn r fun _ p => bn (bn (if hnd v1 v3 (!isw tx n p 5) ≤ 2000 then rt (isw tx n p 5) p else er 7 (skp tx n p)) (pS tx n)) fun st p => bn (pX tx n st p) fun w p => rt (v1, v2, v3, v4, st, w.1, w.2) p) := by
  have n76 : tr ≠ 76 := by have := q.2.1; omega
  have n77 : tr ≠ 77 := by have := q.2.1; omega
  have e0 := isWord_m (s := 5) m (by decide)
  have hb2 : iI (bI (ewB tx n 5 r)) = 0 ∨ iI (bI (ewB tx n 5 r)) = 1 := by
    cases ewB tx n 5 r
    · exact Or.inl rfl
    · exact Or.inr rfl
  unfold jX12_readTrick_117
  rw [q.1, Option.bind_some, e0, zc2_some, if_pos gk, if_pos hb2, zlet_eq, show zR (zsI h tr 7 (iI (bI (ewB tx n 5 r)))) 76 4 = some tr from q.1, Option.bind_some, if_pos gk, zlet_eq]
  have m1 := (m.sI n76 n77 7 (iI (bI (ewB tx n 5 r)))).sI n76 n77 2 (iI v3)
  have f1 : FR [tr] h (zsI (zsI h tr 7 (iI (bI (ewB tx n 5 r)))) tr 2 (iI v3)) := (FR.rf.w n76 (by simp) _ _).w n76 (by simp) _ _
  have q1 : RT (zsI (zsI h tr 7 (iI (bI (ewB tx n 5 r)))) tr 2 (iI v3)) tr := q.fj f1.1
  have v7 : zI (zsI (zsI h tr 7 (iI (bI (ewB tx n 5 r)))) tr 2 (iI v3)) tr 7 = iI (bI (ewB tx n 5 r)) := by rw [zI_sI, z2_k _ _ _ (by decide), zI_sI, z2_at]
  have v2' : zI (zsI (zsI h tr 7 (iI (bI (ewB tx n 5 r)))) tr 2 (iI v3)) tr 2 = iI v3 := by rw [zI_sI, z2_at]
  have vj : ∀ j, j = 5 ∨ j = 6 → zI (zsI (zsI h tr 7 (iI (bI (ewB tx n 5 r)))) tr 2 (iI v3)) tr j = zI h tr j := fun j hj => by rw [zI_sI, z2_k _ _ _ (by omega), zI_sI, z2_k _ _ _ (by omega)]
  generalize zsI (zsI h tr 7 (iI (bI (ewB tx n 5 r)))) tr 2 (iI v3) = hA at *
  have e1 := hOf_m (n := v1) (k := v3) (st := ewB tx n 5 r) q1.2.2.1 v2' v7 h12 h5 h31
  have hcm := cmp2000 (hnd_R (n := v1) (k := v3) h12 h5 (!ewB tx n 5 r))
  obtain ⟨hB, c1, c2, c3, c4⟩ := cf_m m1 7 (C := hnd v1 v3 (!ewB tx n 5 r) ≤ 2000) (fun _ p => decide (hnd v1 v3 (!isw tx n p 5) ≤ 2000)) (fun a p e => by rw [e, decide_eq_true_iff]; exact Iff.rfl)
  have oB : ∀ j, zI hB tr j = zI hA tr j := fun j => c3.o n76 (by simp) j
  have key : ∃ h', jX12_readTrick_167 g 76 (iI v1) (iI v2) (iI v3) (iI v4) hB = some h' ∧ FR [tr] h h' ∧ MR tx n h' (bn r fun _ p => bn (bn (if hnd v1 v3 (!isw tx n p 5) ≤ 2000 then rt (isw tx n p 5) p else er 7 (skp tx n p)) (pS tx n)) fun st p => bn (pX tx n st p) fun w p => rt (v1, v2, v3, v4, st, w.1, w.2) p : PR Tk) ∧ TrG h h' tr (bn r fun _ p => bn (bn (if hnd v1 v3 (!isw tx n p 5) ≤ 2000 then rt (isw tx n p 5) p else er 7 (skp tx n p)) (pS tx n)) fun st p => bn (pX tx n st p) fun w p => rt (v1, v2, v3, v4, st, w.1, w.2) p) := by
    obtain ⟨h', d1, d2, d3, d4⟩ := tr167 (g := g) (v1 := v1) (v2 := v2) (v3 := v3) (v4 := v4) (st := ewB tx n 5 r) c4 (fun a p e => by
      rcases r.cs with ⟨x, y, rfl⟩ | ⟨a', p', rfl⟩
      · exact (er_rt e).elim
      · rw [bn_rt] at e
        split at e
        · obtain ⟨-, e2⟩ := rt_in e
          rw [← e2]; exact hk a' p' rfl
        · exact (er_rt e).elim) (q1.fj c3.1) gk (by rw [oB]; exact v7) (by rw [oB]; exact v2') hv
    have eR : (bn (bn (bn r fun a p => if decide (hnd v1 v3 (!isw tx n p 5) ≤ 2000) = true then rt a p else er 7 (skp tx n p)) (pS tx n)) fun _ p => bn (pX tx n (ewB tx n 5 r) p) fun w p => rt (v1, v2, v3, v4, ewB tx n 5 r, w.1, w.2) p : PR Tk) = bn r fun _ p => bn (bn (if hnd v1 v3 (!isw tx n p 5) ≤ 2000 then rt (isw tx n p 5) p else er 7 (skp tx n p)) (pS tx n)) fun st p => bn (pX tx n st p) fun w p => rt (v1, v2, v3, v4, st, w.1, w.2) p := by
      rcases r.cs with ⟨x, y, rfl⟩ | ⟨a', p', rfl⟩
      · rfl
      · simp only [bn_rt, decide_eq_true_iff]
        show (bn (bn (if hnd v1 v3 (!isw tx n p' 5) ≤ 2000 then rt a' p' else er 7 (skp tx n p')) (pS tx n)) fun _ p => bn (pX tx n (isw tx n p' 5) p) fun w p => rt (v1, v2, v3, v4, isw tx n p' 5, w.1, w.2) p : PR Tk) = _
        split <;> rfl
    exact ⟨h', d1, f1.tr ((c3.mono (by simp)).tr d2), by rw [← eR]; exact d3, d4.st (fun j hj => by rw [oB, vj j hj]) eR⟩
  rcases r.cs with ⟨x, y, rfl⟩ | ⟨a, p, rfl⟩
  · obtain ⟨sA, h9, h13, h14⟩ := mr_ei (show MR tx n hA (er x y : PR α) from m1)
    rw [if_pos (show zI hA 76 9 = (5 : Int32) from h9)]
    have eh : hB = hA := by
      by_cases cc : hnd v1 v3 (!ewB tx n 5 (er x y : PR α)) ≤ 2000
      · exact c1 cc
      · have := c2 cc
        unfold fX12_flaw at this
        rw [zlet_eq, if_pos (sK76 sA), if_pos (show zI hA 76 9 = (5 : Int32) from h9)] at this
        injection this with this
        exact this.symm
    rw [eh] at key
    exact key
  · obtain ⟨sA, rd, h13⟩ := mr_ri (show MR tx n hA (rt a p) from m1)
    have h9 := rd.2.2.1
    have hmb := mS_b (tkK tx n p)
    have n9 : ¬ zI hA 76 9 = (5 : Int32) := by rw [h9, show (5 : Int32) = iI 5 from rfl, iI_eq ⟨by omega, by omega⟩ ⟨by decide, by decide⟩]; omega
    rw [if_neg n9, q1.1, Option.bind_some, if_pos gk, e1, zc2_some]
    by_cases cc : hnd v1 v3 (!ewB tx n 5 (rt a p)) ≤ 2000
    · rw [if_pos (hcm.mpr cc), ← c1 cc]
      exact key
    · rw [if_neg (fun z => cc (hcm.mp z)), show fX12_flaw 76 (7 : Int32) hA = some hB from c2 cc, Option.bind_some]
      exact key
