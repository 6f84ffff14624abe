/-! the class's reader: the text; what a state of the text keeps -/
theorem pN_n {tx : Nat → Int} {n lo hi p : Nat} (hp : p ≤ n) : Pz (pN tx n lo hi p) (fun _ q => q ≤ n) := by
  unfold pN
  exact Pz.bn cN_p fun v q hv => Pz.rt (nx_b tx (by omega)).2
theorem pP_n {tx : Nat → Int} {n s p : Nat} (hp : p ≤ n) : Pz (pP tx n s p) (fun _ q => q ≤ n) := by
  unfold pP
  exact Pz.ite (fun _ => Pz.rt (nx_b tx hp).2) (fun _ => Pz.er)
theorem pQ_n {tx : Nat → Int} {n s lo hi p : Nat} (hp : p ≤ n) : Pz (pQ tx n s lo hi p) (fun _ q => q ≤ n) := by
  unfold pQ
  exact Pz.bn (pP_n hp) fun _ q hq => pN_n hq
theorem pU_n {tx : Nat → Int} {n c p : Nat} (hp : p ≤ n) : Pz (pU tx n c p) (fun _ q => q ≤ n) := by
  unfold pU
  refine Pz.bn (pP_n hp) fun _ q hq => ?_
  refine Pz.bn (Q := fun _ q => q ≤ n) ?_ fun u q hu => Pz.rt (nx_b tx hu).2
  unfold cU
  exact Pz.bn cN_p fun v q hv => Pz.ite (fun c => Pz.rt (by omega)) (fun _ => Pz.er)
theorem oN_n {tx : Nat → Int} {n p : Nat} {b : Bool} (hp : p ≤ n) : oN tx n p b ≤ n := by
  unfold oN
  split
  · exact (nx_b tx hp).2
  · exact hp
theorem pWy_n {tx : Nat → Int} {n c k p : Nat} (hp : p ≤ n) : Pz (pWy tx n c k p) (fun _ q => q ≤ n) := by
  unfold pWy
  refine Pz.bn (Q := fun _ q => q ≤ n) ?_ fun st q hs => ?_
  · unfold cW
    refine Pz.bn (Q := fun _ q => q ≤ n) ?_ fun u q hu => Pz.rt (nx_b tx hu).2
    exact Pz.ite (fun _ => Pz.ite (fun c => Pz.rt hp) (fun _ => Pz.er)) (fun _ => Pz.er)
  · unfold pX
    exact Pz.rt (oN_n (oN_n hs))
theorem Pz.and {α : Type} {r : PR α} {Q Q' : α → Nat → Prop} (h : Pz r Q) (h' : Pz r Q') : Pz r (fun a q => Q a q ∧ Q' a q) := fun a q e => ⟨h a q e, h' a q e⟩
theorem pD_k {tx : Nat → Int} {n : Nat} {S : PS} {p : Nat} (hp : p ≤ n) (ok : PSk n S) : Pz (pD tx n S p) (fun S' q => q ≤ n ∧ PSk n S') := by
  cases e : Pbg S
  · rw [pD_eq e]
    refine Pz.bn (pQ_p.and (pQ_n (nx_b tx hp).2)) fun c p1 ⟨⟨c4, c12⟩, hp1⟩ => ?_
    refine Pz.bn (pU_p.and (pU_n hp1)) fun u p2 ⟨⟨u1, u4, cu⟩, hp2⟩ => ?_
    refine Pz.bn (pQ_p.and (pQ_n hp2)) fun k p3 ⟨⟨k1, k5⟩, hp3⟩ => ?_
    refine Pz.bn (pQ_p.and (pQ_n hp3)) fun e1 p4 ⟨⟨e2, e3⟩, hp4⟩ => ?_
    refine Pz.bn (pWy_p.and (pWy_n hp4)) fun a p5 ⟨⟨y1, y2⟩, hp5⟩ => ?_
    have tok : Tok (c, u, k, e1, a.1, a.2.1, a.2.2) := ⟨c4, c12, u1, u4, cu, k1, by show k ≤ 5; omega, by show k ≤ c; omega, e2, by show e1 ≤ 2; omega, by show e1 < k; omega, y1, y2⟩
    obtain ⟨-, o2, -⟩ := ok
    obtain ⟨o3, o4⟩ := o2 e
    refine Pz.rt ⟨hp5, fun _ => tok, fun z => (by cases z), ?_, fun i hi => ?_, ?_, fun e he => ?_⟩
    · show Prc S ≤ 4
      omega
    · have hi' : i < Prc S := hi
      omega
    · show Pel S ≤ 9
      omega
    · have he' : e < Pel S := he
      omega
  · unfold pD
    rw [e, if_pos rfl]
    exact Pz.er
theorem cB_p {tx : Nat → Int} {n : Nat} {S : PS} {a b p : Nat} (hp : p ≤ n) : Pz (bn (cB tx n S a b p) (pS tx n)) (fun _ q => q ≤ n ∧ Pbg S = true ∧ a < b) := by
  unfold cB
  refine Pz.bn (Q := fun _ q => q ≤ n ∧ Pbg S = true ∧ a < b) (Pz.ite (fun c => Pz.ite (fun c2 => Pz.rt ⟨hp, c, c2⟩) (fun _ => Pz.er)) (fun _ => Pz.er)) fun _ q hq => Pz.rt ⟨(nx_b tx hq.1).2, hq.2⟩
theorem pK_p {tx : Nat → Int} {n p : Nat} (hp : p ≤ n) : Pz (pK tx n p) (fun k q => q ≤ n ∧ k ≤ 21) := by
  have b := nx_b tx hp
  unfold pK
  refine Pz.ite (fun _ => Pz.rt ⟨b.2, by decide⟩) (fun _ => Pz.ite (fun _ => Pz.rt ⟨b.2, by decide⟩) (fun _ => ?_))
  refine Pz.bn (pP_n hp) fun a q hq => ?_
  unfold pWd
  refine Pz.bn (Q := fun k q => k ≤ 3 ∧ q ≤ n) ?_ fun k q hk => ?_
  · cases e : kpW tx n q with
    | none => exact Pz.er
    | some k => exact Pz.rt ⟨kp_b e, (nx_b tx hq).2⟩
  · refine Pz.bn (pP_n hk.2) fun a q hq => ?_
    refine Pz.bn (Q := fun k q => k ≤ 4 ∧ q ≤ n) ?_ fun t q ht => Pz.rt ⟨ht.2, by omega⟩
    cases e : tlW tx n q with
    | none => exact Pz.er
    | some k => exact Pz.rt ⟨tl_b e, (nx_b tx hq).2⟩
theorem pR_k {tx : Nat → Int} {n : Nat} {S : PS} {p : Nat} (hp : p ≤ n) (ok : PSk n S) : Pz (pR tx n S p) (fun S' q => q ≤ n ∧ PSk n S') := by
  unfold pR
  refine Pz.bn (cB_p hp) fun _ p1 ⟨hp1, b, c⟩ => ?_
  refine Pz.bn (Q := fun _ q => q ≤ n) ?_ fun _ p2 hp2 => ?_
  · unfold cM
    exact Pz.ite (fun _ => Pz.ite (fun _ => Pz.er) (fun _ => Pz.rt hp1)) (fun _ => Pz.er)
  · refine Pz.bn (pK_p (nx_b tx hp2).2) fun k q ⟨hq, hk⟩ => Pz.rt ⟨hq, ?_⟩
    obtain ⟨o1, o2, o3, o4, o5, o6⟩ := ok
    refine ⟨o1, fun z => ?_, ?_, fun i hi => ?_, o5, o6⟩
    · have z' : Pbg S = false := z
      rw [b] at z'; cases z'
    · show Prc S + 1 ≤ 4
      omega
    · have hi' : i < Prc S + 1 := hi
      show (if i = Prc S then k else Pru S i) ≤ 21 ∧ (if i = Prc S then p2 else Pnm S i) ≤ n
      by_cases ci : i = Prc S
      · rw [if_pos ci, if_pos ci]; exact ⟨hk, hp2⟩
      · rw [if_neg ci, if_neg ci]; exact o4 i (by omega)
theorem pE_k {tx : Nat → Int} {n : Nat} {S : PS} {p : Nat} (hp : p ≤ n) (ok : PSk n S) : Pz (pE tx n S p) (fun S' q => q ≤ n ∧ PSk n S') := by
  unfold pE
  refine Pz.bn (cB_p hp) fun _ p1 ⟨hp1, b, c⟩ => ?_
  obtain ⟨o1, o2, o3, o4, o5, o6⟩ := ok
  have tok := o1 b
  obtain ⟨bn4, bn12, bu1, bu4, bnu, bk2, bk5, bkn, bp1, bp2, bpk, bH, bsp, bs1, bs4, bT1, bT16, bR1, bR2, bH1, bff, bff1⟩ := tok.b
  refine Pz.bn (pC_q (by omega) hp1) fun cc p2 ⟨hp2, c1, c2⟩ => ?_
  refine Pz.bn (pP_n hp2) fun _ p3 hp3 => ?_
  refine Pz.bn (pC_q (by omega) hp3) fun sh p4 ⟨hp4, s1, s2⟩ => ?_
  refine Pz.bn (pI_p tok hp4) fun m p5 ⟨hp5, hm⟩ => Pz.rt ⟨hp5, ?_⟩
  refine ⟨o1, fun z => ?_, o3, o4, ?_, fun e he => ?_⟩
  · have z' : Pbg S = false := z
    rw [b] at z'; cases z'
  · show Pel S + 1 ≤ 9
    omega
  · have he' : e < Pel S + 1 := he
    show EvK (Ptk S) (if e = Pel S then cc else Pec S e) (if e = Pel S then sh else Pes S e) (if e = Pel S then m else Pet S e)
    by_cases ce : e = Pel S
    · rw [if_pos ce, if_pos ce, if_pos ce]; exact ⟨c1, c2, s1, s2, hm⟩
    · rw [if_neg ce, if_neg ce, if_neg ce]; exact o6 e (by omega)
theorem pG_k {tx : Nat → Int} {n : Nat} {S : PS} {p : Nat} (hp : p ≤ n) (ok : PSk n S) : Pz (pG tx n S p) (fun S' q => q ≤ n ∧ PSk n S') := by
  unfold pG
  exact Pz.ite (fun _ => pD_k hp ok) (fun _ => Pz.ite (fun _ => pR_k hp ok) (fun _ => Pz.ite (fun _ => pE_k hp ok) (fun _ => Pz.er)))
theorem readLine_c {h : Zh} {ts : Nat} {tx : Nat → Int} {n p : Nat} {S : PS} (cs : CS h ts tx n p S) (ok : PSk n S) : CRt (fX7_readLine 2 h) h (cl6 ts) 0 (pG tx n S p) (fun S' p' w h' => w = iI 1 ∧ CS h' ts tx n p' S') := by
  have q := cs.1
  have k2 := sK2 q.1
  have e0 := is_c (s := 0) q (by decide)
  have e1 := is_c (s := 9) q (by decide)
  have e2 := is_c (s := 10) q (by decide)
  have fin : ∀ {o : Option (Int32 × Zh)} {r : PR PS} {S1 : List Nat}, (∀ x, x ∈ S1 → x ∈ cl6 ts) → CRt o h S1 0 r (fun S' p' w h' => w = iI 1 ∧ CS h' ts tx n p' S') → CRt (zc2 o fun v18 h17 => if v18 = 0 ∨ v18 = 1 then some (v18, h17) else none) h (cl6 ts) 0 r (fun S' p' w h' => w = iI 1 ∧ CS h' ts tx n p' S') := by
    intro o r S1 hS ⟨w, h', g1, g2, g3⟩
    rw [g1, zc2_some]
    rcases g3 with ⟨f, y, z1, z2, z3, z4⟩ | ⟨a, y, z1, z2, z3⟩
    · rw [z1, z2]
      exact CRt.er rfl (g2.mono hS) z3 z4
    · rw [z1, z2]
      exact CRt.rt rfl (g2.mono hS) ⟨rfl, z3⟩
  unfold fX7_readLine pG
  rw [zlet_eq, if_pos k2, e0, zc2_some]
  cases isw tx n p 0
  · rw [if_pos (by decide), if_neg (by decide), e1, zc2_some]
    cases isw tx n p 9
    · rw [if_pos (by decide), if_neg (by decide), e2, zc2_some]
      cases isw tx n p 10
      · rw [if_pos (by decide), if_neg (by decide)]
        obtain ⟨hg, g1, g2, g3, g4⟩ := fail_c q 1
        exact CRt.er ((zc_of g1 _).trans rfl) (g2.mono (by simp [cl6])) g3 g4
      · rw [if_neg (by decide), if_pos rfl]
        exact fin (by simp [cl6]) (readEvening_c cs ok)
    · rw [if_neg (by decide), if_pos rfl]
      exact fin (by simp [cl6]) (readRule_c cs ok)
  · rw [if_neg (by decide), if_pos rfl]
    obtain ⟨q, hts, r4, bg, dk, t3, ru, l2, l3, ev⟩ := cs
    refine fin (S1 := [2, ts, ts + 1]) (by simp [cl6]) (cr_mono (readTrick_c q hts r4 bg) (by simp) ?_)
    intro S' p' w h' eS fm ⟨ew, q', b0, bj, d', tok, eS'⟩
    have hbg : Pbg S = false := by
      cases e : Pbg S
      · rfl
      · unfold pD at eS
        rw [e, if_pos rfl] at eS
        exact (er_rt eS).elim
    obtain ⟨-, o2, -⟩ := ok
    obtain ⟨o3, o4⟩ := o2 hbg
    refine ⟨ew, q', hts, by rw [fm.R]; exact r4, ?_, fun _ => d', ?_, fun i hi => ?_, ?_, ?_, fun e he => ?_⟩
    · rw [b0, eS']; rfl
    · rw [bj 3 (by decide), eS']; exact t3
    · rw [eS'] at hi
      have hi' : i < Prc S := hi
      omega
    · rw [fm.o (by simp <;> omega), eS']; exact l2
    · rw [fm.o (by simp <;> omega)]; exact l3
    · rw [eS'] at he
      have he' : e < Pel S := he
      omega
