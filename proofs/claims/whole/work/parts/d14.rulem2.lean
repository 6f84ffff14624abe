/-! the model's reader: a rule's line -/
def nwd (tx : Nat → Int) (n p : Nat) : Int := wen tx (skp tx n p) (rnl 97 122 tx n (skp tx n p))
/-- the model's state while it reads -/
def MS (h : Zh) (tr : Nat) (tx : Nat → Int) (n : Nat) (S : PS) : Prop := RT h tr ∧ (Pbg S = false → zI h tr 0 = iI 0) ∧ (Pbg S = true → Tr h tr (Ptk S)) ∧ zI h tr 5 = iI (Prc S) ∧ zI h tr 6 = iI (Pel S) ∧ (∀ i, i < Prc S → zI h (tr + 1) i = iI (Pru S i) ∧ zJ h (tr + 5) i = jI (nwd tx n (Pnm S i)) ∧ tkK tx n (Pnm S i) = 1) ∧ ∀ e, e < Pel S → (∀ i, i < tk (Ptk S) → zI h (tr + 2) (5 * e + i) = iI (Pec S e i)) ∧ (∀ i, i < tsh (Ptk S) → zI h (tr + 3) (5 * e + i) = iI (Pes S e i)) ∧ zI h (tr + 4) e = iI (Pet S e)
theorem sam_w {tx : Nat → Int} {n p q : Nat} (hp : tkK tx n p = 1) (hq : tkK tx n q = 1) : lg_cmp (jI (nwd tx n q)) (jI (nwd tx n p)) = 0 ↔ sam tx n p q = true := by
  obtain ⟨a1, a2⟩ := wrd hp
  obtain ⟨b1, b2⟩ := wrd hq
  have ba : ∀ i, i < rnl 97 122 tx n (skp tx n p) → 97 ≤ tx (skp tx n p + i) ∧ tx (skp tx n p + i) ≤ 122 := fun i hi => (rnl_in hi).2
  have bb : ∀ i, i < rnl 97 122 tx n (skp tx n q) → 97 ≤ tx (skp tx n q + i) ∧ tx (skp tx n q + i) ≤ 122 := fun i hi => (rnl_in hi).2
  have c1 := enc_b (a := fun i => tx (skp tx n p + i)) _ ba
  have c2 := enc_b (a := fun i => tx (skp tx n q + i)) _ bb
  have p8 : ∀ k : Nat, k ≤ 8 → (32 : Int) ^ k ≤ 1099511627776 := by decide +kernel
  have q1 := p8 _ a2
  have q2 := p8 _ b2
  unfold nwd sam wl
  rw [wen_enc, wen_enc, si_cmpe ⟨by omega, by omega⟩ ⟨by omega, by omega⟩, a1, b1, Bool.and_eq_true_iff, decide_eq_true_iff, alb_t]
  constructor
  · intro z
    obtain ⟨x1, x2⟩ := enc_inj _ _ bb ba z
    exact ⟨x1.symm, fun i hi => decide_eq_true (x2 i hi).symm⟩
  · intro ⟨x1, x2⟩
    rw [x1]
    exact enc_cg _ (fun i hi => (of_decide_eq_true (x2 i hi)).symm)
theorem begins_m {h : Zh} {tx : Nat → Int} {n p tr a b : Nat} {S : PS} (m : MR tx n h (rt () p)) (hk : tkK tx n p ≠ 5) (q : RT h tr) (h0 : Pbg S = false → zI h tr 0 = iI 0) (h1 : Pbg S = true → Tr h tr (Ptk S) ∧ Tok (Ptk S)) (hab : a ≤ b) (hb : b < 100) (h00 : Pbg S = false → a < b) : ∃ h', fX12_begins 76 (iI a) (iI b) h = some h' ∧ FR [] h h' ∧ MR tx n h' (bn (cB tx n S a b p) (pS tx n)) := by
  have n76 : tr ≠ 76 := by have := q.2.1; omega
  have g76 := sK76 m.1
  have gk := q.2.2.1
  have ec : iI (a : Int) = iI (b : Int) ↔ ¬ a < b := by rw [iI_eq ⟨by omega, by omega⟩ ⟨by omega, by omega⟩]; omega
  have z0 : zI h tr 0 = 0 ↔ Pbg S = false := by
    cases e : Pbg S
    · rw [h0 e]; exact iff_of_true rfl rfl
    · obtain ⟨t1, tok⟩ := h1 e
      obtain ⟨bn4, bn12, bu1, bu4, bnu, bk2, bk5, bkn, bp1, bp2, bpk, bH, bsp, bs1, bs4, bT1, bT16, bR1, bR2, bH1, bff, bff1⟩ := tok.b
      rw [t1.2.1]
      refine iff_of_false ?_ (by decide)
      rw [show (0 : Int32) = iI 0 from rfl, iI_eq ⟨by omega, by omega⟩ ⟨by decide, by decide⟩]
      omega
  have ok : ∀ h2, MR tx n h2 (rt () p) → zR h2 = zR h → zI h2 tr 0 = zI h tr 0 → Pbg S = true → ∃ h', jX12_begins_10 h 76 h2 = some h' ∧ FR [] h2 h' ∧ MR tx n h' (rt () (tkN tx n p)) := by
    intro h2 m2 R2 o2 bg
    obtain ⟨h3, c1, c2, c3⟩ := goes_m m2 (fun a p e => by obtain ⟨-, z⟩ := rt_in e; rw [← z]; exact hk)
    refine ⟨h3, ?_, c2, c3⟩
    unfold jX12_begins_10
    rw [if_pos g76, R2, q.1, Option.bind_some, if_pos gk, if_neg (by rw [o2, z0, bg]; decide), c1]
    rfl
  unfold fX12_begins cB
  rw [zlet_eq]
  cases bg : Pbg S
  · rw [if_neg (show ¬ false = true by decide), if_neg (fun z => ec.mp z (h00 bg)), bn_er]
    obtain ⟨h2, f1, f2, f3⟩ := flaw_m (β := Unit) m 6
    obtain ⟨h3, c1, c2, c3⟩ := goes_m f3 (fun a p e => (er_rt e).elim)
    refine ⟨h3, ?_, f2.tr c2, c3⟩
    unfold jX12_begins_10
    rw [if_pos g76, q.1, Option.bind_some, if_pos gk, if_pos (z0.mpr bg), show fX12_flaw 76 (6 : Int32) h = some h2 from f1, Option.bind_some, c1]
    rfl
  · rw [if_pos (show true = true from rfl)]
    by_cases c : a < b
    · rw [if_pos c, if_neg (fun z => ec.mp z c), bn_rt]
      exact ok h m rfl rfl bg
    · rw [if_neg c, if_pos (ec.mpr c), if_pos g76, bn_er]
      obtain ⟨h2, f1, f2, f3⟩ := flaw_m (β := Unit) m 5
      obtain ⟨h3, c1, c2, c3⟩ := goes_m f3 (fun a p e => (er_rt e).elim)
      refine ⟨h3, ?_, f2.tr c2, c3⟩
      rw [show fX12_flaw 76 (5 : Int32) h = some h2 from f1, Option.bind_some]
      unfold jX12_begins_10
      rw [if_pos g76, f2.R, q.1, Option.bind_some, if_pos gk, if_neg (by rw [f2.o n76 (by simp), z0, bg]; decide), c1]
      rfl
def nmB (tx : Nat → Int) (n : Nat) {α : Type} (r : PR α) : Bool := match r with
  | Sum.inl _ => false
  | Sum.inr a => decide (tkK tx n a.2 = 1) && !rsv tx n a.2
theorem isName_m {tx : Nat → Int} {n : Nat} {α : Type} {h : Zh} {r : PR α} (m : MR tx n h r) : fX12_isName 76 h = some (iI (bI (nmB tx n r)), h) := by
  have g76 := sK76 m.1
  have e0 := isWord_m (s := 0) m (by decide)
  have e1 := isWord_m (s := 9) m (by decide)
  have e2 := isWord_m (s := 10) m (by decide)
  have e3 := isWord_m (s := 11) m (by decide)
  have e4 := isWord_m (s := 12) m (by decide)
  unfold fX12_isName
  rw [zlet_eq, if_pos g76]
  rcases r.cs with ⟨x, y, rfl⟩ | ⟨a, p, rfl⟩
  · obtain ⟨-, h9, -⟩ := mr_ei m
    rw [h9, if_neg (by decide)]
    rfl
  · obtain ⟨-, rd, -⟩ := mr_ri m
    have h9 := rd.2.2.1
    have hb := mS_b (tkK tx n p)
    rw [ew_r] at e0 e1 e2 e3 e4
    show _ = some (iI (bI (decide (tkK tx n p = 1) && !rsv tx n p)), h)
    by_cases c : tkK tx n p = 1
    · rw [h9, c, if_pos (by decide), decide_eq_true rfl, Bool.true_and, e0, zc2_some]
      unfold rsv
      cases isw tx n p 0
      · rw [if_pos (by decide), e1, zc2_some]
        cases isw tx n p 9
        · rw [if_pos (by decide), e2, zc2_some]
          cases isw tx n p 10
          · rw [if_pos (by decide), e3, zc2_some]
            cases isw tx n p 11
            · rw [if_pos (by decide), e4, zc2_some]
              cases isw tx n p 12
              · rfl
              · rfl
            · rfl
          · rfl
        · rfl
      · rfl
    · rw [decide_eq_false c, Bool.false_and, if_neg]
      · rfl
      · rw [h9, show (2 : Int32) = iI 2 from rfl, iI_eq ⟨by omega, by omega⟩ ⟨by decide, by decide⟩]
        exact fun z => c ((mS_2 _).mp z)
theorem names_m {g h : Zh} {tx : Nat → Int} {n tr : Nat} {S : PS} {α : Type} {r : PR α} (m : MR tx n h r) (hr : ∀ a p, r = rt a p → tkK tx n p = 1) (ms : MS h tr tx n S) (hrc : Prc S ≤ 4) (gq : RT g tr) : ∃ h', lp (fun q : Int32 × Zh => bX12_readRule_26 g 76 q.1 q.2) zB ((0 : Int32), h) = some (1, (iI (Prc S), h')) ∧ FR [] h h' ∧ MR tx n h' (bn r fun a p => if agn tx n S p = true then er 3 (skp tx n p) else rt a p) := by
  obtain ⟨q, -, -, t5, -, nm, -⟩ := ms
  have n76 : tr ≠ 76 := by have := q.2.1; omega
  have n76' : tr + 5 ≠ 76 := by have := q.2.1; omega
  have gk := gq.2.2.1
  have := lp_cnt (body := fun q : Int32 × Zh => bX12_readRule_26 g 76 q.1 q.2) (Prc S)
    (fun i z => ∃ h1, z = ((iI (i : Nat), h1) : Int32 × Zh) ∧ FR [] h h1 ∧ MR tx n h1 (bn r fun a p => if alb (fun k => !sam tx n p (Pnm S k)) i = true then rt a p else er 3 (skp tx n p)))
    (fun e z => e = 1 ∧ z.1 = iI (Prc S) ∧ FR [] h z.2 ∧ MR tx n z.2 (bn r fun a p => if agn tx n S p = true then er 3 (skp tx n p) else rt a p))
    ?_ ?_ (by omega) (s := ((0 : Int32), h)) ⟨h, rfl, FR.rf, ?_⟩
  · obtain ⟨e, ⟨z1, z2⟩, l1, l2, l3, l4, l5⟩ := this
    have e0 : e = 0 := by omega
    subst e0
    have l3' : z1 = iI (Prc S) := l3
    rw [l3'] at l1
    exact ⟨z2, l1, l4, l5⟩
  · intro i z hi ⟨h1, ez, fr, m1⟩
    subst ez
    refine Or.inl ?_
    show ∃ s', bX12_readRule_26 g 76 (iI i) h1 = some (0, s') ∧ _
    have hle : ¬ iI (Prc S : Int) ≤ iI (i : Int) := by rw [iI_le ⟨by omega, by omega⟩ ⟨by omega, by omega⟩]; omega
    have ei : iI (i : Int) + (1 : Int32) = iI ((i + 1 : Nat) : Int) := by
      rw [show (1 : Int32) = iI 1 from rfl, iI_add]; rfl
    have R1 : zR h1 = zR h := fr.R
    have t51 : zI h1 tr 5 = iI (Prc S) := by rw [fr.o n76 (by simp)]; exact t5
    obtain ⟨n1, n2, n3⟩ := nm i hi
    have over : zI h1 76 9 = iI 5 → bX12_readRule_26 g 76 (iI i) h1 = some (0, (iI ((i + 1 : Nat) : Int), h1)) := by
      intro h9
      unfold bX12_readRule_26
      rw [R1, q.1, Option.bind_some, if_pos gk, t51, if_neg hle, if_pos (show zI h1 76 9 = (5 : Int32) from h9), zlet_eq, ei]
    rcases r.cs with ⟨x, y, rfl⟩ | ⟨a, p, rfl⟩
    · obtain ⟨-, h9, -⟩ := mr_ei (show MR tx n h1 (er x y : PR α) from m1)
      exact ⟨_, over h9, h1, rfl, fr, m1⟩
    · rw [bn_rt] at m1
      rw [bn_rt]
      show ∃ s', _ ∧ ∃ h1, s' = _ ∧ FR [] h h1 ∧ MR tx n h1 (if (alb (fun k => !sam tx n p (Pnm S k)) i && !sam tx n p (Pnm S i)) = true then rt a p else er 3 (skp tx n p))
      cases ca : alb (fun k => !sam tx n p (Pnm S k)) i
      · rw [ca, if_neg (by decide)] at m1
        obtain ⟨-, h9, -⟩ := mr_ei m1
        rw [Bool.false_and, if_neg (by decide)]
        exact ⟨_, over h9, h1, rfl, fr, m1⟩
      · rw [ca, if_pos rfl] at m1
        rw [Bool.true_and]
        obtain ⟨s1, rd, h13⟩ := mr_ri m1
        have kp := hr a p rfl
        have h9 := rd.2.2.1
        have h15 : zJ h1 76 15 = jI (nwd tx n p) := rd.2.2.2.2.2.1 kp
        have hs := sam_w kp n3
        have n9 : ¬ zI h1 76 9 = (5 : Int32) := by rw [h9, kp]; decide
        have e1 : bX12_readRule_26 g 76 (iI i) h1 = if lg_cmp (jI (nwd tx n (Pnm S i))) (jI (nwd tx n p)) = 0 then (fX12_flaw 76 ((3 : Int32)) h1).bind fun h16 => some (0, (iI ((i + 1 : Nat) : Int), h16)) else some (0, (iI ((i + 1 : Nat) : Int), h1)) := by
          unfold bX12_readRule_26
          rw [R1, q.1, Option.bind_some, if_pos gk, t51, if_neg hle, if_neg n9, Option.bind_some, if_pos gk, q.2.2.2.2.2.2.2.1, Option.bind_some, if_pos gq.2.2.2.2.2.2.2.2.2.2.2.2.2.2.2.2.1, if_pos (by rw [gq.2.2.2.2.2.2.2.2.2.2.2.2.2.2.2.2.2]; exact zin_N (by omega) (by decide)), clN (by omega), fr.oJ n76' (by simp), n2, h15, zlet_eq, ei]
          rfl
        rw [e1]
        cases cs : sam tx n p (Pnm S i)
        · rw [if_neg (fun z => by rw [hs.mp z] at cs; cases cs), if_pos (by rfl)]
          exact ⟨_, rfl, h1, rfl, fr, m1⟩
        · rw [if_pos (hs.mpr cs), if_neg (by decide)]
          obtain ⟨h2, f1, f2, f3⟩ := flaw_m (β := α) m1 3
          rw [show fX12_flaw 76 (3 : Int32) h1 = some h2 from f1]
          exact ⟨_, rfl, h2, rfl, fr.tr f2, f3⟩
  · intro z ⟨h1, ez, fr, m1⟩
    subst ez
    have t51 : zI h1 tr 5 = iI (Prc S) := by rw [fr.o n76 (by simp)]; exact t5
    refine ⟨0, (iI (Prc S), h1), ?_, rfl, rfl, fr, ?_⟩
    · show bX12_readRule_26 g 76 (iI (Prc S)) h1 = _
      unfold bX12_readRule_26
      rw [fr.R, q.1, Option.bind_some, if_pos gk, t51, if_pos (Int32.le_refl _)]
    · rcases r.cs with ⟨x, y, rfl⟩ | ⟨a, p, rfl⟩
      · exact m1
      · rw [bn_rt] at m1 ⊢
        unfold agn
        cases ca : alb (fun k => !sam tx n p (Pnm S k)) (Prc S)
        · rw [ca] at m1; exact m1
        · rw [ca] at m1; exact m1
  · rcases r.cs with ⟨x, y, rfl⟩ | ⟨a, p, rfl⟩
    · exact m
    · exact m
