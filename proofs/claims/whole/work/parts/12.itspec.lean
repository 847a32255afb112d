-- ticks on end, of the reference
def itS (dl er ra : Nat → Int) (nd st bo : Int) (ck fa : Nat → Int) : Nat → (Nat → Int) × (Nat → Int)
  | 0 => (ck, fa)
  | i + 1 => (tCk (itS dl er ra nd st bo ck fa i).1 dl er (itS dl er ra nd st bo ck fa i).2 ra nd st bo, tFa (itS dl er ra nd st bo ck fa i).1 dl er (itS dl er ra nd st bo ck fa i).2 nd st)
def itT (dl er ra : Nat → Int) (nd st bo : Int) (ck fa ft : Nat → Int) : Nat → Nat → Int
  | 0 => ft
  | i + 1 => tFt (itS dl er ra nd st bo ck fa i).1 dl er (itS dl er ra nd st bo ck fa i).2 (itT dl er ra nd st bo ck fa ft i) nd st
def itM (dl er ra : Nat → Int) (nd st bo : Int) (ck fa : Nat → Int) (ml : Int) : Nat → Int
  | 0 => ml
  | i + 1 => if itM dl er ra nd st bo ck fa ml i < mLo (itS dl er ra nd st bo ck fa (i + 1)).1 dl nd then mLo (itS dl er ra nd st bo ck fa (i + 1)).1 dl nd else itM dl er ra nd st bo ck fa ml i
theorem tFa_01 {ck dl er fa : Nat → Int} {nd st : Int} (hfa : ∀ k : Nat, k < 6 → fa k = 0 ∨ fa k = 1) : ∀ k : Nat, k < 6 → tFa ck dl er fa nd st k = 0 ∨ tFa ck dl er fa nd st k = 1 := by
  intro k hk
  unfold tFa
  split
  · exact mFa_01 _ _ _
  · exact hfa k hk
theorem tCk_bd {ck dl er fa ra : Nat → Int} {nd st bo B : Int} (hck : ∀ k : Nat, k < 24 → 0 ≤ ck k ∧ ck k ≤ B) (hra : ∀ k : Nat, k < 6 → 0 ≤ ra k ∧ ra k ≤ 110) (hbo : 1 ≤ bo ∧ bo ≤ 60) : ∀ k : Nat, k < 24 → 0 ≤ tCk ck dl er fa ra nd st bo k ∧ tCk ck dl er fa ra nd st bo k ≤ B + 170 := by
  intro k hk
  have h1 := hck k hk
  have h2 := hck (k - 1) (by omega)
  have h3 := hra (k / 4) (by omega)
  unfold tCk
  split
  · unfold mCk
    split
    · rcases mFa_01 (mTu ck dl er nd st) fa (k / 4) with h | h <;> rw [h] <;> omega
    · omega
  · omega
theorem itS_bd {dl er ra ck fa : Nat → Int} {nd st bo B : Int} (hck : ∀ k : Nat, k < 24 → 0 ≤ ck k ∧ ck k ≤ B) (hfa : ∀ k : Nat, k < 6 → fa k = 0 ∨ fa k = 1) (hra : ∀ k : Nat, k < 6 → 0 ≤ ra k ∧ ra k ≤ 110) (hbo : 1 ≤ bo ∧ bo ≤ 60) : ∀ i : Nat, (∀ k : Nat, k < 24 → 0 ≤ (itS dl er ra nd st bo ck fa i).1 k ∧ (itS dl er ra nd st bo ck fa i).1 k ≤ B + 170 * i) ∧ ∀ k : Nat, k < 6 → (itS dl er ra nd st bo ck fa i).2 k = 0 ∨ (itS dl er ra nd st bo ck fa i).2 k = 1
  | 0 => ⟨fun k hk => by have := hck k hk; show 0 ≤ ck k ∧ ck k ≤ _; omega, hfa⟩
  | i + 1 => by
    obtain ⟨h1, h2⟩ := itS_bd (dl := dl) (er := er) (nd := nd) (st := st) hck hfa hra hbo i
    refine ⟨fun k hk => ?_, tFa_01 h2⟩
    have := tCk_bd (dl := dl) (er := er) (fa := (itS dl er ra nd st bo ck fa i).2) (nd := nd) (st := st) h1 hra hbo k hk
    show 0 ≤ tCk _ _ _ _ _ _ _ _ k ∧ tCk _ _ _ _ _ _ _ _ k ≤ _
    omega
def rW (ra : Nat → Int) (nd : Int) (b : Nat) : Nat → Int := fun v => if v < nd.toNat then (if b.testBit v = true then 110 else 90) else ra v
theorem rW_bd {ra : Nat → Int} {nd : Int} {b : Nat} (hra : ∀ k : Nat, k < 6 → 0 ≤ ra k ∧ ra k ≤ 110) : ∀ k : Nat, k < 6 → 0 ≤ rW ra nd b k ∧ rW ra nd b k ≤ 110 := by
  intro k hk
  have := hra k hk
  unfold rW
  (repeat' split) <;> omega
def mWl (dl er ra : Nat → Int) (nd st bo : Int) (ck fa : Nat → Int) (n b : Nat) : Int := mLo (itS dl er (rW ra nd b) nd st bo ck fa n).1 dl nd
def mWo (dl er ra : Nat → Int) (nd st bo : Int) (ck fa : Nat → Int) (n : Nat) : Nat → Int × Nat
  | 0 => (-100000001, 0)
  | b + 1 => if (mWo dl er ra nd st bo ck fa n b).1 = -100000001 ∨ (mWo dl er ra nd st bo ck fa n b).1 < mWl dl er ra nd st bo ck fa n b then (mWl dl er ra nd st bo ck fa n b, b) else mWo dl er ra nd st bo ck fa n b
def mW (dl er ra : Nat → Int) (nd st bo : Int) (ck fa : Nat → Int) (n : Nat) : Int × Nat := mWo dl er ra nd st bo ck fa n (2 ^ nd.toNat)
theorem cpy_lt {g f : Nat → Int} {k : Nat} (hg : ∀ j : Nat, j < k → g j = f j) : ∀ j : Nat, j < k + 1 → va_up g k (f k) j = f j := up_lt hg rfl
