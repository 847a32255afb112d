-- the reference's own words: neighbours, guesses, how far off, triggers
def mB (dl : Nat → Int) (nd z w : Int) : Bool := decide ((0 ≤ z ∧ z ≤ nd - 1) ∧ (0 ≤ w ∧ w ≤ nd - 1) ∧ z ≠ w ∧ dl (6 * z + w).toNat ≠ -100000001)
theorem mB_iff {dl : Nat → Int} {nd z w : Int} : mB dl nd z w = true ↔ ((0 ≤ z ∧ z ≤ nd - 1) ∧ (0 ≤ w ∧ w ≤ nd - 1) ∧ z ≠ w ∧ dl (6 * z + w).toNat ≠ -100000001) := decide_eq_true_iff
theorem mB_nat {dl : Nat → Int} {nd : Int} {i j : Nat} : mB dl nd i j = true ↔ ((i : Int) < nd ∧ (j : Int) < nd ∧ i ≠ j ∧ dl (6 * i + j) ≠ -100000001) := by
  rw [mB_iff, show (6 * (i : Int) + (j : Int)).toNat = 6 * i + j by omega]
  constructor
  · rintro ⟨h1, h2, h3, h4⟩
    exact ⟨by omega, by omega, by omega, h4⟩
  · rintro ⟨h1, h2, h3, h4⟩
    exact ⟨by omega, by omega, by omega, h4⟩
def mG (ck dl er : Nat → Int) (i j : Nat) : Int := ck (4 * j + (dl (6 * i + j)).toNat) + 100 * dl (6 * i + j) + er (6 * i + j)
def mD (ck dl er : Nat → Int) (a : Int) (v w : Nat) : Int := if a = 0 then -(mG ck dl er v w - ck (4 * v)) else mG ck dl er v w - ck (4 * v)
def mOf (ck dl er : Nat → Int) (nd a : Int) (v : Nat) : Nat → Int
  | 0 => -100000001
  | w + 1 => if mB dl nd v w = true then (if mOf ck dl er nd a v w = -100000001 ∨ mOf ck dl er nd a v w < mD ck dl er a v w then mD ck dl er a v w else mOf ck dl er nd a v w) else mOf ck dl er nd a v w
section MOF
variable {ck dl er : Nat → Int} {nd a : Int} {v w : Nat}
theorem mOf_no (h : ¬ mB dl nd v w = true) : mOf ck dl er nd a v (w + 1) = mOf ck dl er nd a v w := by rw [mOf, if_neg h]
theorem mOf_up (h : mB dl nd v w = true) (h2 : mOf ck dl er nd a v w = -100000001 ∨ mOf ck dl er nd a v w < mD ck dl er a v w) : mOf ck dl er nd a v (w + 1) = mD ck dl er a v w := by rw [mOf, if_pos h, if_pos h2]
theorem mOf_st (h : mB dl nd v w = true) (h2 : mOf ck dl er nd a v w ≠ -100000001) (h3 : mD ck dl er a v w ≤ mOf ck dl er nd a v w) : mOf ck dl er nd a v (w + 1) = mOf ck dl er nd a v w := by
  rw [mOf, if_pos h, if_neg (by omega)]
theorem mG_rng (hck : ∀ k : Nat, k < 24 → 0 ≤ ck k ∧ ck k ≤ 50000000) (her : ∀ k : Nat, k < 36 → -9 ≤ er k ∧ er k ≤ 9) (hv : v < 6) (hw : w < 6) (hd : 0 ≤ dl (6 * v + w) ∧ dl (6 * v + w) ≤ 3) : -9 ≤ mG ck dl er v w ∧ mG ck dl er v w ≤ 50000309 := by
  have h1 := hck (4 * w + (dl (6 * v + w)).toNat) (by omega)
  have h2 := her (6 * v + w) (by omega)
  unfold mG
  omega
theorem mD_rng (hck : ∀ k : Nat, k < 24 → 0 ≤ ck k ∧ ck k ≤ 50000000) (her : ∀ k : Nat, k < 36 → -9 ≤ er k ∧ er k ≤ 9) (hv : v < 6) (hw : w < 6) (hd : 0 ≤ dl (6 * v + w) ∧ dl (6 * v + w) ≤ 3) : -60000000 ≤ mD ck dl er a v w ∧ mD ck dl er a v w ≤ 60000000 := by
  have h1 := mG_rng (ck := ck) (dl := dl) (er := er) hck her hv hw hd
  have h2 := hck (4 * v) (by omega)
  unfold mD
  split <;> omega
theorem mB_dl (hdl : ∀ k : Nat, k < 36 → dl k = -100000001 ∨ (0 ≤ dl k ∧ dl k ≤ 3)) (hnd : 0 ≤ nd ∧ nd ≤ 6) (h : mB dl nd v w = true) : v < 6 ∧ w < 6 ∧ 0 ≤ dl (6 * v + w) ∧ dl (6 * v + w) ≤ 3 := by
  obtain ⟨h1, h2, h3, h4⟩ := mB_nat.mp h
  rcases hdl (6 * v + w) (by omega) with h5 | h5
  · exact absurd h5 h4
  · exact ⟨by omega, by omega, h5⟩
theorem mOf_rng (hck : ∀ k : Nat, k < 24 → 0 ≤ ck k ∧ ck k ≤ 50000000) (her : ∀ k : Nat, k < 36 → -9 ≤ er k ∧ er k ≤ 9) (hdl : ∀ k : Nat, k < 36 → dl k = -100000001 ∨ (0 ≤ dl k ∧ dl k ≤ 3)) (hnd : 0 ≤ nd ∧ nd ≤ 6) : ∀ w : Nat, mOf ck dl er nd a v w = -100000001 ∨ (-60000000 ≤ mOf ck dl er nd a v w ∧ mOf ck dl er nd a v w ≤ 60000000)
  | 0 => Or.inl rfl
  | w + 1 => by
    have ih := mOf_rng hck her hdl hnd w
    by_cases h : mB dl nd v w = true
    · obtain ⟨g1, g2, g3⟩ := mB_dl hdl hnd h
      have h2 := mD_rng (a := a) hck her g1 g2 g3
      by_cases h3 : mOf ck dl er nd a v w = -100000001 ∨ mOf ck dl er nd a v w < mD ck dl er a v w
      · rw [mOf_up h h3]
        exact Or.inr h2
      · rw [mOf_st h (by omega) (by omega)]
        exact ih
    · rw [mOf_no h]
      exact ih
end MOF
def mN (st a f : Int) : Int := if a ≤ f * st then f else (a + st - 1) / st
def mFi (st a f : Int) : Int := if mN st a f % 2 = f % 2 then mN st a f else mN st a f + 1
theorem mN_bd {st a f : Int} (hs : 1 ≤ st ∧ st ≤ 500) (hf : f = 1 ∨ f = 2) (ha : a ≤ 1000000000) : 1 ≤ mN st a f ∧ mN st a f ≤ 1000000000 ∧ mN st a f * st ≤ max (f * st) (a + st) ∧ (a ≤ f * st ∨ a ≤ mN st a f * st) ∧ f ≤ mN st a f := by
  have hfs : f * st = st ∨ f * st = 2 * st := by rcases hf with h | h <;> rw [h] <;> omega
  unfold mN
  split
  · refine ⟨by omega, by omega, by omega, by omega, by omega⟩
  · have h1 := Int.emod_nonneg (a + st - 1) (b := st) (by omega)
    have h2 := Int.emod_lt_of_pos (a + st - 1) (b := st) (by omega)
    have h3 := Int.emod_def (a + st - 1) st
    rw [Int.mul_comm] at h3
    have h6 : f ≤ (a + st - 1) / st := by
      refine (Int.le_ediv_iff_mul_le (by omega)).mpr ?_
      omega
    have h7 : (a + st - 1) / st ≤ a + st - 1 := Int.ediv_le_self _ (by omega)
    refine ⟨by omega, ?_, by omega, by omega, h6⟩
    rcases Int.lt_or_le st 2 with h | h
    · have : st = 1 := by omega
      subst this
      omega
    · have h8 : (a + st - 1) / st ≤ (a + st - 1) / 2 := by
        refine (Int.le_ediv_iff_mul_le (by omega)).mpr ?_
        have h9 : (a + st - 1) / st * 2 ≤ (a + st - 1) / st * st := Int.mul_le_mul_of_nonneg_left h (by omega)
        omega
      omega
theorem mFi_bd {st a f : Int} (hs : 1 ≤ st ∧ st ≤ 500) (hf : f = 1 ∨ f = 2) (ha : a ≤ 1000000000) : 1 ≤ mFi st a f ∧ mFi st a f ≤ 1000000001 ∧ mFi st a f * st ≤ max (f * st) (a + 2 * st) ∧ 0 ≤ mFi st a f * st := by
  obtain ⟨h1, h2, h3, h4, h5⟩ := mN_bd hs hf ha
  have hfs : f * st = st ∨ f * st = 2 * st := by rcases hf with h | h <;> rw [h] <;> omega
  have hnn : 0 ≤ mN st a f * st := Int.mul_nonneg (by omega) (by omega)
  unfold mFi
  split
  · refine ⟨h1, by omega, by omega, hnn⟩
  · rename_i hne
    rw [Int.add_mul, Int.one_mul]
    refine ⟨by omega, by omega, ?_, by omega⟩
    by_cases h : a ≤ f * st
    · exfalso
      have : mN st a f = f := by unfold mN; rw [if_pos h]
      rw [this] at hne
      exact hne rfl
    · omega
def mTr (st a b f : Int) : Int := if a = -100000001 then -100000001 else if mFi st a f * st ≤ b then mFi st a f else -100000001
def mUp (st ah be : Int) : Int := if mTr st be ah 1 = -100000001 then -100000001 else (mTr st be ah 1 - 1) / 2
def mDn (st ah be : Int) : Int := if mTr st ah be 2 = -100000001 then -100000001 else mTr st ah be 2 / 2
theorem mTr_bd {st a b f : Int} (hs : 1 ≤ st ∧ st ≤ 500) (hf : f = 1 ∨ f = 2) (ha : a ≤ 1000000000) : mTr st a b f = -100000001 ∨ (1 ≤ mTr st a b f ∧ mTr st a b f ≤ 1000000001) := by
  have := mFi_bd hs hf ha
  unfold mTr
  split
  · exact Or.inl rfl
  · split
    · right; omega
    · exact Or.inl rfl
theorem mUp_bd {st ah be : Int} (hs : 1 ≤ st ∧ st ≤ 500) (hb : be ≤ 1000000000) : -100000001 ≤ mUp st ah be ∧ mUp st ah be ≤ 1000000001 := by
  have := mTr_bd (b := ah) hs (Or.inl rfl : (1 : Int) = 1 ∨ (1 : Int) = 2) hb
  unfold mUp
  split <;> omega
theorem mDn_bd {st ah be : Int} (hs : 1 ≤ st ∧ st ≤ 500) (hb : ah ≤ 1000000000) : -100000001 ≤ mDn st ah be ∧ mDn st ah be ≤ 1000000001 := by
  have := mTr_bd (b := be) hs (Or.inr rfl : (2 : Int) = 1 ∨ (2 : Int) = 2) hb
  unfold mDn
  split <;> omega
