/-! what a rule by words lays: the numbers -/
def sumf (w : Nat → Nat) : Nat → Nat
  | 0 => 0
  | i + 1 => sumf w i + w i
theorem sumf_le {w : Nat → Nat} {b : Nat} : ∀ a, (∀ i, i < a → w i ≤ b) → sumf w a ≤ a * b
  | 0, _ => by simp [sumf]
  | a + 1, h => by
    have h1 := sumf_le a (fun i hi => h i (by omega))
    have h2 := h a (by omega)
    rw [sumf, Nat.add_mul, Nat.one_mul]
    omega
/-- those of a row that pass, and how many -/
def fcn (P : Nat → Bool) (c : Nat → Nat) : Nat → Nat
  | 0 => 0
  | i + 1 => fcn P c i + (if P (c i) then 1 else 0)
def fls (P : Nat → Bool) (c : Nat → Nat) : Nat → Nat → Nat
  | 0 => fun _ => 0
  | i + 1 => if P (c i) then z1 (fls P c i) (fcn P c i) (c i) else fls P c i
theorem fcn_le (P : Nat → Bool) (c : Nat → Nat) : ∀ i, fcn P c i ≤ i
  | 0 => Nat.le_refl _
  | i + 1 => by
    have := fcn_le P c i
    rw [fcn]
    split <;> omega
theorem fls_in {P : Nat → Bool} {c : Nat → Nat} : ∀ i j, j < fcn P c i → ∃ a, a < i ∧ fls P c i j = c a ∧ P (c a) = true
  | 0, j, h => by simp [fcn] at h
  | i + 1, j, h => by
    rw [fcn] at h
    rw [fls]
    cases e : P (c i)
    · rw [e] at h
      obtain ⟨a, h1, h2, h3⟩ := fls_in i j (by simpa using h)
      exact ⟨a, by omega, by simpa using h2, h3⟩
    · rw [e] at h
      rw [if_pos rfl]
      by_cases c1 : j = fcn P c i
      · exact ⟨i, by omega, by rw [c1, z1_self], e⟩
      · obtain ⟨a, h1, h2, h3⟩ := fls_in (P := P) (c := c) i j (by simp at h; omega)
        exact ⟨a, by omega, by rw [z1_ne _ _ c1]; exact h2, h3⟩
theorem fls_all {P : Nat → Bool} {c : Nat → Nat} : ∀ i a, a < i → P (c a) = true → ∃ j, j < fcn P c i ∧ fls P c i j = c a
  | 0, a, h, _ => by omega
  | i + 1, a, h, hp => by
    rw [fcn, fls]
    by_cases c1 : a = i
    · rw [c1] at hp
      rw [hp, if_pos rfl, if_pos rfl, c1]
      exact ⟨fcn P c i, by omega, z1_self _ _ _⟩
    · obtain ⟨j, h1, h2⟩ := fls_all i a (by omega) hp
      refine ⟨j, by omega, ?_⟩
      split
      · rw [z1_ne _ _ (by omega)]; exact h2
      · exact h2
theorem fls_dst {P : Nat → Bool} {c : Nat → Nat} : ∀ i, dst c i → dst (fls P c i) (fcn P c i)
  | 0, _ => fun a b h1 h2 => by simp [fcn] at h2
  | i + 1, h => by
    have ih := fls_dst (P := P) i (h.le (by omega))
    rw [fcn, fls]
    split
    · intro a b h1 h2
      rw [z1_ne _ _ (show a ≠ fcn P c i by omega)]
      by_cases c1 : b = fcn P c i
      · rw [c1, z1_self]
        obtain ⟨y, h3, h4, -⟩ := fls_in (P := P) (c := c) i a (by omega)
        rw [h4]
        exact h y i h3 (by omega)
      · rw [z1_ne _ _ c1]
        exact ih a b h1 (by omega)
    · exact ih
theorem fls_mask {P : Nat → Bool} {c : Nat → Nat} (i x : Nat) : (fmask (fls P c i) (fcn P c i)).testBit x = ((fmask c i).testBit x && P x) := by
  have h : (fmask (fls P c i) (fcn P c i)).testBit x = true ↔ ((fmask c i).testBit x && P x) = true := by
    rw [Bool.and_eq_true, fmask_bit, fmask_bit]
    constructor
    · rintro ⟨j, h1, h2⟩
      obtain ⟨a, h3, h4, h5⟩ := fls_in i j h1
      rw [h4] at h2
      exact ⟨⟨a, h3, h2⟩, by rw [← h2]; exact h5⟩
    · rintro ⟨⟨a, h1, h2⟩, h3⟩
      obtain ⟨j, h4, h5⟩ := fls_all (P := P) (c := c) i a h1 (by rw [h2]; exact h3)
      exact ⟨j, h4, by rw [h5, h2]⟩
  cases e1 : (fmask (fls P c i) (fcn P c i)).testBit x <;> cases e2 : ((fmask c i).testBit x && P x) <;> simp_all
/-- one of a row goes to an earlier place -/
def ri (i a j : Nat) : Nat := if j = i then a else if i < j ∧ j ≤ a then j - 1 else j
def rot (u : Nat → Nat) (i a j : Nat) : Nat := u (ri i a j)
theorem ri_inj {i a j k : Nat} (h : i ≤ a) (e : ri i a j = ri i a k) : j = k := by
  unfold ri at e
  split at e <;> split at e <;> (try split at e) <;> (try split at e) <;> omega
theorem ri_lt {i a j b : Nat} (h : a < b) (hj : j < b) : ri i a j < b := by
  unfold ri
  split
  · exact h
  · split <;> omega
theorem rot_ok {u : Nat → Nat} {i a b n : Nat} (h1 : i ≤ a) (h2 : a < b) (hd : dst u b) (hn : ∀ j, j < b → u j < n) : dst (rot u i a) b ∧ ∀ j, j < b → rot u i a j < n := by
  refine ⟨fun x y h3 h4 e => ?_, fun j hj => hn _ (ri_lt h2 hj)⟩
  unfold rot at e
  rcases Nat.lt_trichotomy (ri i a x) (ri i a y) with c | c | c
  · exact hd _ _ c (ri_lt h2 h4) e
  · have := ri_inj h1 c
    omega
  · exact hd _ _ c (ri_lt h2 (by omega)) e.symm
theorem rot_id {u : Nat → Nat} {i : Nat} : rot u i i = u := by
  funext j
  unfold rot ri
  split
  · rename_i h; rw [h]
  · split
    · omega
    · rfl
def rsA (cnt num : Nat) : Nat → Nat
  | 0 => num
  | i + 1 => rsA cnt num i % ff (cnt - 1 - i) (cnt - 1 - i)
def arA (u : Nat → Nat) (fr cnt num : Nat) : Nat → Nat → Nat
  | 0 => u
  | i + 1 => rot (arA u fr cnt num i) (fr + i) (fr + i + rsA cnt num i / ff (cnt - 1 - i) (cnt - 1 - i))
theorem ff_k : ∀ m : Nat, m < 6 → 0 < ff m m ∧ ff m m ≤ 120 ∧ pfall m m = ff m m := by decide +kernel
theorem ff_k2 : ∀ m : Nat, m < 6 → ff (m + 1) (m + 1) = (m + 1) * ff m m := by decide +kernel
theorem rsA_lt {cnt num : Nat} (hc : cnt ≤ 5) (h : num < ff cnt cnt) : ∀ i, i < cnt → rsA cnt num i < ff (cnt - i) (cnt - i)
  | 0, _ => h
  | i + 1, hi => by
    rw [rsA, show cnt - 1 - i = cnt - (i + 1) by omega]
    exact Nat.mod_lt _ (ff_k _ (by omega)).1
theorem rsA_div {cnt num : Nat} (hc : cnt ≤ 5) (h : num < ff cnt cnt) {i : Nat} (hi : i < cnt) : rsA cnt num i / ff (cnt - 1 - i) (cnt - 1 - i) < cnt - i := by
  have h1 := rsA_lt hc h i hi
  have h2 := ff_k2 (cnt - 1 - i) (by omega)
  rw [show cnt - 1 - i + 1 = cnt - i by omega] at h2
  rw [h2] at h1
  exact Nat.div_lt_of_lt_mul (by rw [Nat.mul_comm]; exact h1)
theorem arA_ok {u : Nat → Nat} {fr cnt num n : Nat} (hc : cnt ≤ 5) (h : num < ff cnt cnt) (hd : dst u (fr + cnt)) (hn : ∀ j, j < fr + cnt → u j < n) : ∀ i, i ≤ cnt → dst (arA u fr cnt num i) (fr + cnt) ∧ ∀ j, j < fr + cnt → arA u fr cnt num i j < n
  | 0, _ => ⟨hd, hn⟩
  | i + 1, hi => by
    obtain ⟨h1, h2⟩ := arA_ok hc h hd hn i (by omega)
    have h3 := rsA_div hc h (show i < cnt by omega)
    rw [arA]
    exact rot_ok (Nat.le_add_right _ _) (by generalize rsA cnt num i / ff (cnt - 1 - i) (cnt - 1 - i) = y at h3 ⊢; omega) h1 h2
theorem arA_last {u : Nat → Nat} {fr cnt num : Nat} (hc : cnt ≤ 5) (h1 : 1 ≤ cnt) (h : num < ff cnt cnt) : arA u fr cnt num cnt = arA u fr cnt num (cnt - 1) := by
  obtain ⟨m, rfl⟩ : ∃ m, cnt = m + 1 := ⟨cnt - 1, by omega⟩
  have h3 := rsA_div hc h (show m < m + 1 by omega)
  rw [arA, show m + 1 - 1 = m by omega]
  have : rsA (m + 1) num m / ff (m + 1 - 1 - m) (m + 1 - 1 - m) = 0 := by generalize rsA (m + 1) num m / ff (m + 1 - 1 - m) (m + 1 - 1 - m) = y at h3 ⊢; omega
  rw [show m - m = m + 1 - 1 - m by omega, this]
  exact rot_id
noncomputable def cS (t : Tk) (x : Nat) : Nat → Nat := srt (hc t x) (tk t)
theorem cS_ok {t : Tk} (tok : Tok t) {x : Nat} (hx : x < tH t) : ris (cS t x) (tk t) ∧ fmask (cS t x) (tk t) = fmask (hc t x) (tk t) ∧ ∀ i, i < tk t → cS t x i < tn t := by
  have hv := hc_vld tok hx
  obtain ⟨h1, h2⟩ := srt_ok (tk t) hv.dst
  exact ⟨h1, h2, srt_lt hv.dst hv.1⟩
theorem cS_she {t : Tk} (tok : Tok t) {x : Nat} (hx : x < tH t) (hs : tst t = false) : ∀ i, i < tk t → cS t x i = hc t x i := by
  have hv := hc_vld tok hx
  obtain ⟨h1, h2, -⟩ := cS_ok tok hx
  have hr : ris (hc t x) (tk t) := fun a b q1 q2 => by
    have := hv.2 b q2 a q1
    rw [hs] at this
    simpa using this
  exact ris_uniq h1 hr h2
noncomputable def kpl (t : Tk) (x keep : Nat) : Nat := if keep = 0 then 0 else if keep = 1 then tk t - 1 else if keep = 2 then (tk t - tp t) / 2 else sumf (cS t x) (tk t) % tk t
theorem kpl_lt {t : Tk} (tok : Tok t) (x keep : Nat) : kpl t x keep < tk t := by
  obtain ⟨bn4, bn12, bu1, bu4, bnu, bk2, bk5, bkn, bp1, bp2, bpk, bH, bsp, bs1, bs4, bT1, bT16, bR1, bR2, bH1, bff, bff1⟩ := tok.b
  unfold kpl
  split
  · omega
  · split
    · omega
    · split
      · omega
      · exact Nat.mod_lt _ (by omega)
noncomputable def kA (t : Tk) (x keep : Nat) : Nat := cS t x (kpl t x keep)
noncomputable def kB (t : Tk) (x keep : Nat) : Nat := if tp t = 2 then cS t x ((kpl t x keep + 1) % tk t) else kA t x keep
noncomputable def kM (t : Tk) (x keep : Nat) : Nat := 2 ^ kA t x keep ||| 2 ^ kB t x keep
theorem kA_in {t : Tk} (tok : Tok t) {x : Nat} (hx : x < tH t) (keep : Nat) : (∃ i, i < tk t ∧ hc t x i = kA t x keep) ∧ (∃ i, i < tk t ∧ hc t x i = kB t x keep) ∧ (tp t = 2 → kA t x keep ≠ kB t x keep) ∧ (tp t = 1 → kA t x keep = kB t x keep) ∧ kA t x keep < tn t ∧ kB t x keep < tn t := by
  obtain ⟨bn4, bn12, bu1, bu4, bnu, bk2, bk5, bkn, bp1, bp2, bpk, bH, bsp, bs1, bs4, bT1, bT16, bR1, bR2, bH1, bff, bff1⟩ := tok.b
  obtain ⟨h1, h2, h3⟩ := cS_ok tok hx
  have hp := kpl_lt tok x keep
  have hm := mem_mask h2
  have hp2 : (kpl t x keep + 1) % tk t < tk t := Nat.mod_lt _ (by omega)
  refine ⟨hm _ hp, ?_, fun e => ?_, fun e => ?_, h3 _ hp, ?_⟩
  · unfold kB
    split
    · exact hm _ hp2
    · exact hm _ hp
  · unfold kB kA
    rw [if_pos e]
    intro q
    have hne : kpl t x keep ≠ (kpl t x keep + 1) % tk t := by
      by_cases c : kpl t x keep + 1 < tk t
      · rw [Nat.mod_eq_of_lt c]; omega
      · rw [show kpl t x keep + 1 = tk t by omega, Nat.mod_self]; omega
    rcases Nat.lt_trichotomy (kpl t x keep) ((kpl t x keep + 1) % tk t) with c | c | c
    · have := h1 _ _ c hp2; omega
    · exact hne c
    · have := h1 _ _ c hp; omega
  · unfold kB
    rw [if_neg (by omega)]
  · unfold kB
    split
    · exact h3 _ hp2
    · exact h3 _ hp
theorem or_pow_bit (a b x : Nat) : (2 ^ a ||| 2 ^ b).testBit x = (decide (a = x) || decide (b = x)) := by
  rw [Nat.testBit_or, Nat.testBit_two_pow, Nat.testBit_two_pow]
/-- those shown, as they lie -/
noncomputable def shw (t : Tk) (x m : Nat) : Nat → Nat := fls (fun c => !m.testBit c) (hc t x) (tk t)
noncomputable def opn (t : Tk) (x m : Nat) : Nat := fmask (shw t x m) (tsh t)
theorem fcn_one {c : Nat → Nat} {y : Nat} : ∀ k, dst c k → (∃ i, i < k ∧ c i = y) → fcn (fun z => !decide (y = z)) c k + 1 = k
  | 0, _, h => by obtain ⟨i, h, _⟩ := h; omega
  | k + 1, hd, ⟨i, h1, h2⟩ => by
    rw [fcn]
    by_cases e : i = k
    · have : ∀ j, j ≤ k → fcn (fun z => !decide (y = z)) c j = j := by
        intro j
        induction j with
        | zero => intro _; rfl
        | succ j ih =>
          intro hj
          have hne : ¬ y = c j := fun q => hd j k (by omega) (by omega) (by rw [← q, ← h2, e])
          rw [fcn, ih (by omega), decide_eq_false hne]
          rfl
      rw [this k (Nat.le_refl _), decide_eq_true (show y = c k by rw [← h2, e])]
      rfl
    · have ih := fcn_one k (hd.le (by omega)) ⟨i, by omega, h2⟩
      have hne : ¬ y = c k := fun q => hd i k (by omega) (by omega) (by rw [h2, q])
      rw [decide_eq_false hne]
      simp
      omega
theorem fcn_two {c : Nat → Nat} {y z : Nat} (hyz : y ≠ z) : ∀ k, dst c k → (∃ i, i < k ∧ c i = y) → (∃ i, i < k ∧ c i = z) → fcn (fun w => !(decide (y = w) || decide (z = w))) c k + 2 = k
  | 0, _, h, _ => by obtain ⟨i, h, _⟩ := h; omega
  | k + 1, hd, ⟨i, h1, h2⟩, ⟨j, h3, h4⟩ => by
    have hone : ∀ {u v : Nat} {m : Nat}, (∀ a, a < m → c a ≠ v) → ∀ b, b ≤ m → fcn (fun w => !(decide (u = w) || decide (v = w))) c b = fcn (fun w => !decide (u = w)) c b := by
      intro u v m hv b
      induction b with
      | zero => intro _; rfl
      | succ b ih =>
        intro hb
        rw [fcn, fcn, ih (by omega), decide_eq_false (show ¬ v = c b from fun q => hv b (by omega) q.symm), Bool.or_false]
    have hcomm : (fun w => !(decide (y = w) || decide (z = w))) = (fun w => !(decide (z = w) || decide (y = w))) := by
      funext w; rw [Bool.or_comm]
    rw [fcn]
    by_cases e : i = k
    · have ej : j ≠ k := fun q => hyz (by rw [← h2, ← h4, e, q])
      have h5 := fcn_one k (hd.le (by omega)) ⟨j, by omega, h4⟩
      have h6 := hone (u := z) (v := y) (m := k) (fun a ha q => hd a k ha (by omega) (by rw [q, ← h2, e])) k (Nat.le_refl _)
      rw [hcomm, h6, decide_eq_true (show y = c k by rw [← h2, e]), Bool.true_or]
      simp
      omega
    · by_cases ej : j = k
      · have h5 := fcn_one k (hd.le (by omega)) ⟨i, by omega, h2⟩
        have h6 := hone (u := y) (v := z) (m := k) (fun a ha q => hd a k ha (by omega) (by rw [q, ← h4, ej])) k (Nat.le_refl _)
        rw [h6, decide_eq_true (show z = c k by rw [← h4, ej]), Bool.or_true]
        simp
        omega
      · have ih := fcn_two hyz k (hd.le (by omega)) ⟨i, by omega, h2⟩ ⟨j, by omega, h4⟩
        rw [decide_eq_false (show ¬ y = c k from fun q => hd i k (by omega) (by omega) (by rw [h2, q])), decide_eq_false (show ¬ z = c k from fun q => hd j k (by omega) (by omega) (by rw [h4, q])), if_pos (show (!(false || false)) = true from rfl)]
        omega
theorem fcn_congr {P Q : Nat → Bool} {c : Nat → Nat} : ∀ k, (∀ i, i < k → P (c i) = Q (c i)) → fcn P c k = fcn Q c k
  | 0, _ => rfl
  | k + 1, h => by rw [fcn, fcn, fcn_congr k (fun i hi => h i (by omega)), h k (by omega)]
theorem kM_cnt {t : Tk} (tok : Tok t) {x : Nat} (hx : x < tH t) (keep : Nat) : fcn (fun c => !(kM t x keep).testBit c) (hc t x) (tk t) = tsh t := by
  obtain ⟨bn4, bn12, bu1, bu4, bnu, bk2, bk5, bkn, bp1, bp2, bpk, bH, bsp, bs1, bs4, bT1, bT16, bR1, bR2, bH1, bff, bff1⟩ := tok.b
  obtain ⟨h1, h2, h3, h4, -, -⟩ := kA_in tok hx keep
  have hd := (hc_vld tok hx).dst
  have e : (fun c => !(kM t x keep).testBit c) = (fun w => !(decide (kA t x keep = w) || decide (kB t x keep = w))) := by
    funext w
    unfold kM
    rw [or_pow_bit]
  rw [e]
  by_cases c : tp t = 2
  · have := fcn_two (h3 c) (tk t) hd h1 h2
    omega
  · have e2 : (fun w => !(decide (kA t x keep = w) || decide (kB t x keep = w))) = (fun z => !decide (kA t x keep = z)) := by
      funext w
      rw [← h4 (by omega), Bool.or_self]
    rw [e2]
    have := fcn_one (tk t) hd h1
    omega
theorem shw_ok {t : Tk} (tok : Tok t) {x : Nat} (hx : x < tH t) (keep : Nat) : dst (shw t x (kM t x keep)) (tsh t) ∧ ∀ i, i < tsh t → shw t x (kM t x keep) i < tn t := by
  have hc1 := kM_cnt tok hx keep
  have hv := hc_vld tok hx
  have hd := fls_dst (P := fun c => !(kM t x keep).testBit c) (tk t) hv.dst
  rw [hc1] at hd
  refine ⟨hd, fun i hi => ?_⟩
  obtain ⟨a, h1, h2, -⟩ := fls_in (P := fun c => !(kM t x keep).testBit c) (c := hc t x) (tk t) i (by rw [hc1]; exact hi)
  unfold shw
  rw [h2]
  exact hv.1 a h1
theorem opn_bit {t : Tk} (tok : Tok t) {x : Nat} (hx : x < tH t) (keep y : Nat) : (opn t x (kM t x keep)).testBit y = (hasC t x y && !(kM t x keep).testBit y) := by
  have h := fls_mask (P := fun c => !(kM t x keep).testBit c) (c := hc t x) (tk t) y
  rw [kM_cnt tok hx keep] at h
  exact h
theorem opn_lt {t : Tk} (tok : Tok t) {x : Nat} (hx : x < tH t) (keep : Nat) : opn t x (kM t x keep) < 4096 := by
  obtain ⟨bn4, bn12, bu1, bu4, bnu, bk2, bk5, bkn, bp1, bp2, bpk, bH, bsp, bs1, bs4, bT1, bT16, bR1, bR2, bH1, bff, bff1⟩ := tok.b
  obtain ⟨-, h⟩ := shw_ok tok hx keep
  exact fmask_lt (N := 12) _ (fun i hi => by have := h i hi; omega)
def gapN (n c o : Nat) : Nat := if zfst (fun g => o.testBit (if g + 1 ≤ c then c - (g + 1) else c + n - (g + 1))) (n - 1) < n - 1 then zfst (fun g => o.testBit (if g + 1 ≤ c then c - (g + 1) else c + n - (g + 1))) (n - 1) + 1 else 0
def tel (t : Tk) (o ks tl c : Nat) : Nat := if tl = 0 then c else if tl = 1 then c % (tn t / tu t) else if tl = 2 then gapN (tn t) c o else if tl = 3 then (c - bsum o c) / tk t else ks % tn t
theorem tel_lt {t : Tk} (tok : Tok t) {o ks tl c : Nat} (hc : c < tn t) : tel t o ks tl c < tn t := by
  obtain ⟨bn4, bn12, bu1, bu4, bnu, bk2, bk5, bkn, bp1, bp2, bpk, bH, bsp, bs1, bs4, bT1, bT16, bR1, bR2, bH1, bff, bff1⟩ := tok.b
  unfold tel
  have h0 := zfst_le (fun g => o.testBit (if g + 1 ≤ c then c - (g + 1) else c + tn t - (g + 1))) (tn t - 1)
  split
  · exact hc
  · split
    · exact Nat.lt_of_le_of_lt (Nat.mod_le _ _) hc
    · split
      · unfold gapN
        split <;> omega
      · split
        · exact Nat.lt_of_le_of_lt (Nat.div_le_self _ _) (by omega)
        · exact Nat.mod_lt _ (by omega)
noncomputable def kLo (t : Tk) (x keep : Nat) : Nat := min (kA t x keep) (kB t x keep)
noncomputable def kHi (t : Tk) (x keep : Nat) : Nat := max (kA t x keep) (kB t x keep)
noncomputable def kSm (t : Tk) (x keep : Nat) : Nat := if tp t = 1 then kLo t x keep else kLo t x keep + kHi t x keep
noncomputable def tlv (t : Tk) (x words : Nat) : Nat := if tp t = 1 then tel t (opn t x (kM t x (words / 5))) (kSm t x (words / 5)) (words % 5) (kLo t x (words / 5)) else tel t (opn t x (kM t x (words / 5))) (kSm t x (words / 5)) (words % 5) (kLo t x (words / 5)) * tn t + tel t (opn t x (kM t x (words / 5))) (kSm t x (words / 5)) (words % 5) (kHi t x (words / 5))
theorem tlv_lt {t : Tk} (tok : Tok t) {x : Nat} (hx : x < tH t) (words : Nat) : tlv t x words < 200 := by
  obtain ⟨bn4, bn12, bu1, bu4, bnu, bk2, bk5, bkn, bp1, bp2, bpk, bH, bsp, bs1, bs4, bT1, bT16, bR1, bR2, bH1, bff, bff1⟩ := tok.b
  obtain ⟨-, -, -, -, h1, h2⟩ := kA_in tok hx (words / 5)
  have hl : kLo t x (words / 5) < tn t := by unfold kLo; omega
  have hh : kHi t x (words / 5) < tn t := by unfold kHi; omega
  unfold tlv
  have a1 := tel_lt tok (o := opn t x (kM t x (words / 5))) (ks := kSm t x (words / 5)) (tl := words % 5) hl
  have a2 := tel_lt tok (o := opn t x (kM t x (words / 5))) (ks := kSm t x (words / 5)) (tl := words % 5) hh
  split
  · omega
  · have : tel t (opn t x (kM t x (words / 5))) (kSm t x (words / 5)) (words % 5) (kLo t x (words / 5)) * tn t ≤ 11 * 12 := Nat.mul_le_mul (by omega) (by omega)
    omega
def anyO (t : Tk) : Bool := !tst t && !thd t
/-- the row for cards shown and a number told -/
def rwT (t : Tk) (u : Nat → Nat) (v : Nat) : Nat := if anyO t then rowN (tn t) (arA u 0 (tsh t) (v % ff (tsh t) (tsh t)) (tsh t)) (tsh t) * tT t + v / ff (tsh t) (tsh t) % tT t else rowN (tn t) u (tsh t) * tT t + v % tT t
noncomputable def layW (t : Tk) (x words : Nat) : Nat := rwT t (shw t x (kM t x (words / 5))) (tlv t x words)
