-- nets as texts
def tD (t : Nat → Int) (j : Nat) : Int := t j - 48
def smL (t : Nat → Int) (i : Nat) (a b : Int) : Bool := decide ((tD t (2 + 4 * i) = a ∧ tD t (3 + 4 * i) = b) ∨ (tD t (2 + 4 * i) = b ∧ tD t (3 + 4 * i) = a))
def nwL (t : Nat → Int) (a b : Int) : Nat → Bool
  | 0 => true
  | i + 1 => nwL t a b i && !smL t i a b
def fit (t : Nat → Int) (j : Nat) : Bool := if j = 0 then decide (2 ≤ tD t 0 ∧ tD t 0 ≤ 6) else if j % 4 = 1 then decide (t j = 44) else if j % 4 = 2 then decide (0 ≤ tD t j ∧ tD t j < tD t 0) else if j % 4 = 3 then (decide ((0 ≤ tD t j ∧ tD t j < tD t 0) ∧ tD t (j - 1) ≠ tD t j) && nwL t (tD t (j - 1)) (tD t j) ((j - 3) / 4)) else decide (0 ≤ tD t j ∧ tD t j ≤ 3)
theorem fit0 {t : Nat → Int} : fit t 0 = true ↔ (2 ≤ tD t 0 ∧ tD t 0 ≤ 6) := by rw [fit, if_pos rfl, decide_eq_true_iff]
theorem fit1 {t : Nat → Int} {j : Nat} (h : j % 4 = 1) : fit t j = true ↔ t j = 44 := by rw [fit, if_neg (by omega), if_pos h, decide_eq_true_iff]
theorem fit2 {t : Nat → Int} {j : Nat} (h : j % 4 = 2) : fit t j = true ↔ (0 ≤ tD t j ∧ tD t j < tD t 0) := by rw [fit, if_neg (by omega), if_neg (by omega), if_pos h, decide_eq_true_iff]
theorem fit3 {t : Nat → Int} {j : Nat} (h : j % 4 = 3) : fit t j = true ↔ ((0 ≤ tD t j ∧ tD t j < tD t 0) ∧ tD t (j - 1) ≠ tD t j) ∧ nwL t (tD t (j - 1)) (tD t j) ((j - 3) / 4) = true := by rw [fit, if_neg (by omega), if_neg (by omega), if_neg (by omega), if_pos h, Bool.and_eq_true, decide_eq_true_iff]
theorem fit4 {t : Nat → Int} {j : Nat} (h : j % 4 = 0) (h0 : j ≠ 0) : fit t j = true ↔ (0 ≤ tD t j ∧ tD t j ≤ 3) := by rw [fit, if_neg h0, if_neg (by omega), if_neg (by omega), if_neg (by omega), decide_eq_true_iff]
def lkM (t : Nat → Int) : Nat → Nat → Int
  | 0 => fun _ => -100000001
  | i + 1 => va_up (va_up (lkM t i) (6 * tD t (2 + 4 * i) + tD t (3 + 4 * i)).toNat (tD t (4 + 4 * i))) (6 * tD t (3 + 4 * i) + tD t (2 + 4 * i)).toNat (tD t (4 + 4 * i))
/-- m links stand: their digits and delays are as they must be -/
def lkOK (t : Nat → Int) (m : Nat) : Prop := ∀ i : Nat, i < m → (0 ≤ tD t (2 + 4 * i) ∧ tD t (2 + 4 * i) < tD t 0) ∧ (0 ≤ tD t (3 + 4 * i) ∧ tD t (3 + 4 * i) < tD t 0) ∧ tD t (2 + 4 * i) ≠ tD t (3 + 4 * i) ∧ (0 ≤ tD t (4 + 4 * i) ∧ tD t (4 + 4 * i) ≤ 3) ∧ nwL t (tD t (2 + 4 * i)) (tD t (3 + 4 * i)) i = true
theorem lkOK_of {t : Nat → Int} {k m : Nat} (h : ∀ j : Nat, j < k → fit t j = true) (hm : 4 * m < k) : lkOK t m := by
  intro i hi
  have h2 := (fit2 (t := t) (j := 2 + 4 * i) (by omega)).mp (h _ (by omega))
  have h3 := (fit3 (t := t) (j := 3 + 4 * i) (by omega)).mp (h _ (by omega))
  have h4 := (fit4 (t := t) (j := 4 + 4 * i) (by omega) (by omega)).mp (h _ (by omega))
  rw [show 3 + 4 * i - 1 = 2 + 4 * i by omega, show (3 + 4 * i - 3) / 4 = i by omega] at h3
  exact ⟨h2, h3.1.1, h3.1.2, h4, h3.2⟩
theorem lkM_look {t : Nat → Int} (h0 : tD t 0 ≤ 6) : ∀ m : Nat, lkOK t m → ∀ a b : Nat, a < 6 → b < 6 → (lkM t m (6 * a + b) = -100000001 ↔ nwL t a b m = true) ∧ (lkM t m (6 * a + b) = -100000001 ∨ (0 ≤ lkM t m (6 * a + b) ∧ lkM t m (6 * a + b) ≤ 3))
  | 0, _, a, b, _, _ => ⟨⟨fun _ => rfl, fun _ => rfl⟩, Or.inl rfl⟩
  | m + 1, hok, a, b, ha, hb => by
    have ih := lkM_look h0 m (fun i hi => hok i (by omega)) a b ha hb
    obtain ⟨h2, h3, hne, h4, -⟩ := hok m (by omega)
    rw [lkM, nwL]
    by_cases e1 : tD t (3 + 4 * m) = a ∧ tD t (2 + 4 * m) = b
    · rw [show (6 * tD t (3 + 4 * m) + tD t (2 + 4 * m)).toNat = 6 * a + b by omega, up_s]
      have hs : smL t m a b = true := by rw [smL, decide_eq_true_iff]; exact Or.inr ⟨e1.2, e1.1⟩
      rw [hs, Bool.not_true, Bool.and_false]
      exact ⟨⟨fun q => by omega, fun q => by cases q⟩, Or.inr h4⟩
    · rw [up_n _ _ _ (show 6 * a + b ≠ (6 * tD t (3 + 4 * m) + tD t (2 + 4 * m)).toNat by omega)]
      by_cases e2 : tD t (2 + 4 * m) = a ∧ tD t (3 + 4 * m) = b
      · rw [show (6 * tD t (2 + 4 * m) + tD t (3 + 4 * m)).toNat = 6 * a + b by omega, up_s]
        have hs : smL t m a b = true := by rw [smL, decide_eq_true_iff]; exact Or.inl e2
        rw [hs, Bool.not_true, Bool.and_false]
        exact ⟨⟨fun q => by omega, fun q => by cases q⟩, Or.inr h4⟩
      · rw [up_n _ _ _ (show 6 * a + b ≠ (6 * tD t (2 + 4 * m) + tD t (3 + 4 * m)).toNat by omega)]
        have hs : smL t m a b = false := by
          rw [smL, decide_eq_false_iff_not]
          rintro (q | q)
          · exact e2 q
          · exact e1 ⟨q.2, q.1⟩
        rw [hs, Bool.not_false, Bool.and_true]
        exact ih
/-- the automaton behind k letters that fit -/
def AS (t : Nat → Int) (k : Nat) (nn nl du nO nT : Int) (nw : Nat → Int) : Prop :=
  (k = 0 → nn = 0 ∧ nl = 0 ∧ du = 0) ∧ (0 < k → nn = tD t 0 ∧ nl = (((k - 1) / 4 : Nat) : Int) ∧ du = (((k - 1) % 4 : Nat) : Int)) ∧ (0 < k → (k - 1) % 4 = 2 → nO = tD t (k - 1)) ∧ (0 < k → (k - 1) % 4 = 3 → nT = tD t (k - 1) ∧ nO = tD t (k - 2)) ∧ nw = lkM t ((k - 1) / 4)
theorem AS_facts {t : Nat → Int} {k : Nat} {nn nl du nO nT : Int} {nw : Nat → Int} (hA : AS t k nn nl du nO nT nw) (hf : ∀ j : Nat, j < k → fit t j = true) (hk : 0 < k) : (2 ≤ nn ∧ nn ≤ 6) ∧ (0 ≤ du ∧ du ≤ 3) ∧ (du = 2 → 0 ≤ nO ∧ nO < nn) ∧ (du = 3 → (0 ≤ nO ∧ nO < nn) ∧ (0 ≤ nT ∧ nT < nn) ∧ nO ≠ nT) ∧ (∀ j : Nat, j < 36 → nw j = -100000001 ∨ (0 ≤ nw j ∧ nw j ≤ 3)) := by
  obtain ⟨-, h1, h2, h3, h4⟩ := hA
  obtain ⟨e1, e2, e3⟩ := h1 hk
  have h0 := fit0.mp (hf 0 hk)
  refine ⟨by omega, by omega, fun q => ?_, fun q => ?_, fun j hj => ?_⟩
  · have := (fit2 (t := t) (j := k - 1) (by omega)).mp (hf _ (by omega))
    have := h2 hk (by omega)
    omega
  · have g3 := (fit3 (t := t) (j := k - 1) (by omega)).mp (hf _ (by omega))
    have g2 := (fit2 (t := t) (j := k - 2) (by omega)).mp (hf _ (by omega))
    rw [show k - 1 - 1 = k - 2 by omega] at g3
    have := h3 hk (by omega)
    omega
  · have := (lkM_look (t := t) (by omega) ((k - 1) / 4) (lkOK_of hf (by omega)) (j / 6) (j % 6) (by omega) (by omega)).2
    rw [show 6 * (j / 6) + j % 6 = j by omega] at this
    rw [h4]
    exact this
theorem AS_pos {t : Nat → Int} {k : Nat} {nn nl du nO nT : Int} {nw : Nat → Int} (hA : AS t k nn nl du nO nT nw) (hf : ∀ j : Nat, j < k → fit t j = true) : (nn = 0 ↔ k = 0) ∧ (0 ≤ nn ∧ nn ≤ 6) ∧ (0 ≤ du ∧ du ≤ 3) := by
  rcases Nat.eq_zero_or_pos k with h | h
  · have := hA.1 h
    omega
  · have := AS_facts hA hf h
    omega
def xFF (f : Nat → Bool) : Nat → Nat → Nat
  | 0, i => i
  | r + 1, i => if f i = true then xFF f r (i + 1) else i
theorem xFF_spec (f : Nat → Bool) : ∀ (r i : Nat), i ≤ xFF f r i ∧ xFF f r i ≤ i + r ∧ (∀ j : Nat, i ≤ j → j < xFF f r i → f j = true) ∧ (xFF f r i < i + r → f (xFF f r i) = false)
  | 0, i => ⟨Nat.le_refl _, Nat.le_refl _, fun j h1 h2 => by rw [xFF] at h2; omega, fun h => by rw [xFF] at h; omega⟩
  | r + 1, i => by
    rw [xFF]
    by_cases h : f i = true
    · rw [if_pos h]
      obtain ⟨h1, h2, h3, h4⟩ := xFF_spec f r (i + 1)
      refine ⟨by omega, by omega, fun j g1 g2 => ?_, fun g => h4 (by omega)⟩
      by_cases e : j = i
      · rw [e]; exact h
      · exact h3 j (by omega) g2
    · rw [if_neg h]
      exact ⟨Nat.le_refl _, by omega, fun j g1 g2 => by omega, fun _ => Bool.eq_false_iff.mpr h⟩
/-- where a text first goes wrong -/
def fau (t : Nat → Int) (n : Nat) : Nat := xFF (fit t) n 0
