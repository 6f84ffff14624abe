/-! the text, as both read it: a fault with its place, or a value with the place of the next token -/
def PR (α : Type) : Type := (Nat × Nat) ⊕ (α × Nat)
def er {α : Type} (f q : Nat) : PR α := Sum.inl (f, q)
def rt {α : Type} (a : α) (p : Nat) : PR α := Sum.inr (a, p)
def bn {α β : Type} (r : PR α) (k : α → Nat → PR β) : PR β := match r with
  | Sum.inl e => Sum.inl e
  | Sum.inr a => k a.1 a.2
theorem bn_er {α β : Type} (f q : Nat) (k : α → Nat → PR β) : bn (er f q) k = er f q := rfl
theorem bn_rt {α β : Type} (a : α) (q : Nat) (k : α → Nat → PR β) : bn (rt a q) k = k a q := rfl
theorem er_rt {α : Type} {f q p : Nat} {a : α} (h : er f q = rt a p) : False := by
  unfold er rt at h
  injection h
theorem rt_er {α : Type} {f q p : Nat} {a : α} (h : rt a p = er f q) : False := er_rt h.symm
theorem rt_in {α : Type} {p q : Nat} {a b : α} (h : rt a p = rt b q) : a = b ∧ p = q := by
  unfold rt at h
  injection h with h
  injection h with h1 h2
  exact ⟨h1, h2⟩
theorem PR.cs {α : Type} (r : PR α) : (∃ f q, r = er f q) ∨ ∃ a p, r = rt a p := by
  rcases r with ⟨f, q⟩ | ⟨a, p⟩
  · exact Or.inl ⟨f, q, rfl⟩
  · exact Or.inr ⟨a, p, rfl⟩
theorem bn_as {α β γ : Type} (r : PR α) (k : α → Nat → PR β) (l : β → Nat → PR γ) : bn (bn r k) l = bn r (fun a q => bn (k a q) l) := by
  rcases r.cs with ⟨f, q, e⟩ | ⟨a, p, e⟩
  · rw [e]; rfl
  · rw [e]; rfl
/-- what holds behind a sound piece -/
def Pz {α : Type} (r : PR α) (Q : α → Nat → Prop) : Prop := ∀ a q, r = rt a q → Q a q
theorem Pz.er {α : Type} {f p : Nat} {Q : α → Nat → Prop} : Pz (er f p) Q := fun _ _ h => (er_rt h).elim
theorem Pz.rt {α : Type} {a : α} {p : Nat} {Q : α → Nat → Prop} (h : Q a p) : Pz (rt a p) Q := fun b q e => by
  obtain ⟨e1, e2⟩ := rt_in e
  rw [← e1, ← e2]
  exact h
theorem Pz.bn {α β : Type} {r : PR α} {k : α → Nat → PR β} {Q : α → Nat → Prop} {Q' : β → Nat → Prop} (h : Pz r Q) (hk : ∀ a q, Q a q → Pz (k a q) Q') : Pz (bn r k) Q' := by
  rcases r.cs with ⟨f, q, e⟩ | ⟨a, p, e⟩
  · rw [e, bn_er]; exact Pz.er
  · rw [e, bn_rt]
    exact hk a p (h a p e)
theorem Pz.ite {α : Type} {c : Prop} [Decidable c] {r s : PR α} {Q : α → Nat → Prop} (h1 : c → Pz r Q) (h2 : ¬ c → Pz s Q) : Pz (if c then r else s) Q := by
  by_cases q : c
  · rw [if_pos q]; exact h1 q
  · rw [if_neg q]; exact h2 q
theorem Pz.mono {α : Type} {r : PR α} {Q Q' : α → Nat → Prop} (h : Pz r Q) (hk : ∀ a q, Q a q → Q' a q) : Pz r Q' := fun a q e => hk a q (h a q e)
def tkW (tx : Nat → Int) (n p : Nat) : Nat := (tkV tx n p).toNat
def pP (tx : Nat → Int) (n s p : Nat) : PR Unit := if isw tx n p s = true then rt () (tkN tx n p) else er 1 (skp tx n p)
def cN (tx : Nat → Int) (n lo hi p : Nat) : PR Nat := if tkK tx n p = 2 then (if lo ≤ tkW tx n p ∧ tkW tx n p ≤ hi then rt (tkW tx n p) p else er 4 (skp tx n p)) else er 1 (skp tx n p)
def pS (tx : Nat → Int) (n : Nat) {α : Type} (a : α) (p : Nat) : PR α := rt a (tkN tx n p)
def pN (tx : Nat → Int) (n lo hi p : Nat) : PR Nat := bn (cN tx n lo hi p) (pS tx n)
def pQ (tx : Nat → Int) (n s lo hi p : Nat) : PR Nat := bn (pP tx n s p) fun _ q => pN tx n lo hi q
def cU (tx : Nat → Int) (n c p : Nat) : PR Nat := bn (cN tx n 1 4 p) fun u q => if c % u = 0 then rt u q else er 4 (skp tx n q)
def pU (tx : Nat → Int) (n c p : Nat) : PR Nat := bn (pP tx n 2 p) fun _ q => bn (cU tx n c q) (pS tx n)
/-- a word that may stand there -/
def oN (tx : Nat → Int) (n p : Nat) (b : Bool) : Nat := if b then tkN tx n p else p
def pX (tx : Nat → Int) (n : Nat) (st : Bool) (p : Nat) : PR (Bool × Bool) := rt (!st && isw tx n p 7, isw tx n (oN tx n p (!st && isw tx n p 7)) 8) (oN tx n (oN tx n p (!st && isw tx n p 7)) (isw tx n (oN tx n p (!st && isw tx n p 7)) 8))
def cW (tx : Nat → Int) (n c k p : Nat) : PR Bool := if isw tx n p 5 = true ∨ isw tx n p 6 = true then (if hnd c k (!isw tx n p 5) ≤ 2000 then rt (isw tx n p 5) p else er 7 (skp tx n p)) else er 1 (skp tx n p)
def pT (tx : Nat → Int) (n p : Nat) : PR Tk := bn (pQ tx n 1 4 12 (tkN tx n p)) fun c p => bn (pU tx n c p) fun u p => bn (pQ tx n 3 2 (min c 5) p) fun k p => bn (pQ tx n 4 1 (min (k - 1) 2) p) fun e p => bn (bn (cW tx n c k p) (pS tx n)) fun st p => bn (pX tx n st p) fun w p => rt (c, u, k, e, st, w.1, w.2) p
/-- begun, the trick, rules and their names' places, evenings: cards, shown, tilted -/
def PS : Type := Bool × Tk × Nat × (Nat → Nat) × (Nat → Nat) × Nat × (Nat → Nat → Nat) × (Nat → Nat → Nat) × (Nat → Nat)
def Pbg (S : PS) : Bool := S.1
def Ptk (S : PS) : Tk := S.2.1
def Prc (S : PS) : Nat := S.2.2.1
def Pru (S : PS) : Nat → Nat := S.2.2.2.1
def Pnm (S : PS) : Nat → Nat := S.2.2.2.2.1
def Pel (S : PS) : Nat := S.2.2.2.2.2.1
def Pec (S : PS) : Nat → Nat → Nat := S.2.2.2.2.2.2.1
def Pes (S : PS) : Nat → Nat → Nat := S.2.2.2.2.2.2.2.1
def Pet (S : PS) : Nat → Nat := S.2.2.2.2.2.2.2.2
def wl (tx : Nat → Int) (n p : Nat) : Nat := tkN tx n p - skp tx n p
/-- two words are one -/
def sam (tx : Nat → Int) (n p q : Nat) : Bool := decide (wl tx n p = wl tx n q) && alb (fun i => decide (tx (skp tx n p + i) = tx (skp tx n q + i))) (wl tx n q)
def rsv (tx : Nat → Int) (n p : Nat) : Bool := isw tx n p 0 || (isw tx n p 9 || (isw tx n p 10 || (isw tx n p 11 || isw tx n p 12)))
def agn (tx : Nat → Int) (n : Nat) (S : PS) (p : Nat) : Bool := !alb (fun i => !sam tx n p (Pnm S i)) (Prc S)
def cM (tx : Nat → Int) (n : Nat) (S : PS) (p : Nat) : PR Unit := if tkK tx n p = 1 ∧ rsv tx n p = false then (if agn tx n S p = true then er 3 (skp tx n p) else rt () p) else er 1 (skp tx n p)
def kpW (tx : Nat → Int) (n p : Nat) : Option Nat := if isw tx n p 16 = true then some 0 else if isw tx n p 17 = true then some 1 else if isw tx n p 18 = true then some 2 else if isw tx n p 19 = true then some 3 else none
def tlW (tx : Nat → Int) (n p : Nat) : Option Nat := if isw tx n p 21 = true then some 0 else if isw tx n p 22 = true then some 1 else if isw tx n p 23 = true then some 2 else if isw tx n p 24 = true then some 3 else if isw tx n p 19 = true then some 4 else none
def pO (tx : Nat → Int) (n : Nat) (o : Option Nat) (p : Nat) : PR Nat := match o with
  | none => er 1 (skp tx n p)
  | some k => rt k (tkN tx n p)
def pWd (tx : Nat → Int) (n p : Nat) : PR Nat := bn (pO tx n (kpW tx n p) p) fun k p => bn (pP tx n 20 p) fun _ p => bn (pO tx n (tlW tx n p) p) fun t p => rt (5 * k + t) p
def pK (tx : Nat → Int) (n p : Nat) : PR Nat := if isw tx n p 13 = true then rt 20 (tkN tx n p) else if isw tx n p 14 = true then rt 21 (tkN tx n p) else bn (pP tx n 15 p) fun _ p => pWd tx n p
def addR (S : PS) (m k : Nat) : PS := (Pbg S, Ptk S, Prc S + 1, fun i => if i = Prc S then k else Pru S i, fun i => if i = Prc S then m else Pnm S i, Pel S, Pec S, Pes S, Pet S)
def cB (tx : Nat → Int) (n : Nat) (S : PS) (a b p : Nat) : PR Unit := if Pbg S = true then (if a < b then rt () p else er 5 (skp tx n p)) else er 6 (skp tx n p)
def pR (tx : Nat → Int) (n : Nat) (S : PS) (p : Nat) : PR PS := bn (bn (cB tx n S (Prc S) 4 p) (pS tx n)) fun _ p => bn (cM tx n S p) fun _ p => bn (pK tx n (tkN tx n p)) fun k q => rt (addR S p k) q
def cV (tx : Nat → Int) (n bd m p : Nat) : PR Nat := bn (cN tx n 0 (bd - 1) p) fun v q => if m.testBit v = true then er 3 (skp tx n q) else rt v q
def pCm (tx : Nat → Int) (n i p : Nat) : PR Unit := if i = 0 then rt () p else if tkK tx n p = 4 then rt () (tkN tx n p) else er 1 (skp tx n p)
def pC (tx : Nat → Int) (n bd : Nat) : Nat → Nat → Nat → (Nat → Nat) → Nat → PR (Nat → Nat)
  | 0, _, _, c, p => rt c p
  | r + 1, i, m, c, p => bn (pCm tx n i p) fun _ p => bn (cV tx n bd m p) fun v p => pC tx n bd r (i + 1) (m ||| 2 ^ v) (fun j => if j = i then v else c j) (tkN tx n p)
def pL (tx : Nat → Int) (n bd : Nat) : Nat → Nat → Nat → PR Nat
  | 0, _, p => er 1 (skp tx n p)
  | f + 1, m, p => bn (cV tx n bd m p) fun v p => if tkK tx n (tkN tx n p) = 4 then pL tx n bd f (m ||| 2 ^ v) (tkN tx n (tkN tx n p)) else rt (m ||| 2 ^ v) (tkN tx n p)
def pI (tx : Nat → Int) (n : Nat) (t : Tk) (p : Nat) : PR Nat := if tti t = true ∧ isw tx n p 12 = true then pL tx n (tsh t) (n + 1) 0 (tkN tx n p) else rt 0 p
def addE (S : PS) (c s : Nat → Nat) (m : Nat) : PS := (Pbg S, Ptk S, Prc S, Pru S, Pnm S, Pel S + 1, fun e => if e = Pel S then c else Pec S e, fun e => if e = Pel S then s else Pes S e, fun e => if e = Pel S then m else Pet S e)
def pE (tx : Nat → Int) (n : Nat) (S : PS) (p : Nat) : PR PS := bn (bn (cB tx n S (Pel S) 9 p) (pS tx n)) fun _ p => bn (pC tx n (tn (Ptk S)) (tk (Ptk S)) 0 0 (fun _ => 0) p) fun c p => bn (pP tx n 11 p) fun _ p => bn (pC tx n (tn (Ptk S)) (tsh (Ptk S)) 0 0 (fun _ => 0) p) fun s p => bn (pI tx n (Ptk S) p) fun m p => rt (addE S c s m) p
def setT (S : PS) (t : Tk) : PS := (true, t, S.2.2)
def pD (tx : Nat → Int) (n : Nat) (S : PS) (p : Nat) : PR PS := if Pbg S = true then er 3 (skp tx n p) else bn (pT tx n p) fun t q => rt (setT S t) q
def pG (tx : Nat → Int) (n : Nat) (S : PS) (p : Nat) : PR PS := if isw tx n p 0 = true then pD tx n S p else if isw tx n p 9 = true then pR tx n S p else if isw tx n p 10 = true then pE tx n S p else er 1 (skp tx n p)
def pA (tx : Nat → Int) (n : Nat) : Nat → PS → Nat → PR PS
  | 0, _, p => er 1 (skp tx n p)
  | f + 1, S, p => bn (pG tx n S p) fun S q => if tkK tx n q = 0 then rt S q else if tkK tx n q = 3 then pA tx n f S (tkN tx n q) else er 1 (skp tx n q)
/-- a number's value -/
theorem dvv_b {tx : Nat → Int} {n s : Nat} : ∀ k, k ≤ rnl 48 57 tx n s → 0 ≤ dvv 48 tx s k ∧ dvv 48 tx s k < 10 ^ k
  | 0, _ => ⟨Int.le_refl _, show (0 : Int) < 10 ^ 0 by decide⟩
  | k + 1, h => by
    have ih := dvv_b (tx := tx) (n := n) (s := s) k (by omega)
    have hk := (rnl_in (show k < rnl 48 57 tx n s by omega)).2
    show 0 ≤ dvv 48 tx s k * 10 + (tx (s + k) - 48) ∧ dvv 48 tx s k * 10 + (tx (s + k) - 48) < 10 ^ (k + 1)
    rw [Int.pow_succ]
    omega
theorem nmb {tx : Nat → Int} {n p : Nat} (h : tkK tx n p = 2) : rnl 48 57 tx n (skp tx n p) ≤ 3 := by
  unfold tkK at h
  by_cases c0 : n ≤ skp tx n p
  · rw [if_pos c0] at h; omega
  · rw [if_neg c0] at h
    by_cases c1 : ltr (tx (skp tx n p)) = true
    · rw [if_pos c1] at h
      split at h <;> omega
    · rw [if_neg c1] at h
      by_cases c2 : dgt0 (tx (skp tx n p)) = true
      · rw [if_pos c2] at h
        by_cases c3 : rnl 48 57 tx n (skp tx n p) ≤ 3
        · exact c3
        · rw [if_neg c3] at h; omega
      · rw [if_neg c2] at h
        split at h
        · omega
        · split at h <;> omega
theorem tkV_W {tx : Nat → Int} {n p : Nat} (h : tkK tx n p = 2) : tkV tx n p = (tkW tx n p : Int) ∧ tkW tx n p < 1000 := by
  have h1 := nmb h
  have h2 := dvv_b (tx := tx) (n := n) (s := skp tx n p) _ (Nat.le_refl _)
  have p3 : ∀ k : Nat, k ≤ 3 → (10 : Int) ^ k ≤ 1000 := by decide +kernel
  have h3 := p3 _ h1
  unfold tkW tkV
  omega
/-- a sign is one byte -/
theorem sgn_N {tx : Nat → Int} {n p : Nat} (h : tkK tx n p = 3 ∨ tkK tx n p = 4) : tkN tx n p = skp tx n p + 1 := by
  unfold tkK at h
  unfold tkN
  by_cases c0 : n ≤ skp tx n p
  · rw [if_pos c0] at h; omega
  · rw [if_neg c0] at h ⊢
    by_cases c1 : ltr (tx (skp tx n p)) = true
    · rw [if_pos c1] at h
      split at h <;> omega
    · rw [if_neg c1] at h ⊢
      by_cases c2 : dgt0 (tx (skp tx n p)) = true
      · rw [if_pos c2] at h
        split at h <;> omega
      · rw [if_neg c2]
theorem tkK_b (tx : Nat → Int) (n p : Nat) : tkK tx n p ≤ 5 := by
  unfold tkK
  split
  · omega
  · split
    · split <;> omega
    · split
      · split <;> omega
      · split
        · omega
        · split <;> omega
theorem isw_1 {tx : Nat → Int} {n p s : Nat} (h : isw tx n p s = true) : tkK tx n p = 1 := by
  unfold isw at h
  rw [Bool.and_eq_true_iff] at h
  exact of_decide_eq_true h.1
theorem nx_b (tx : Nat → Int) {n p : Nat} (hp : p ≤ n) : p ≤ tkN tx n p ∧ tkN tx n p ≤ n := by
  have h1 := skp_b tx hp
  have h2 := tkN_b tx hp
  omega
