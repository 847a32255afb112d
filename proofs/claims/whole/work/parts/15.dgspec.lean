-- digests
def mx (h : Int64) (z : Int) : Int64 := (31 : Int64) * h + Int32.toInt64 (iI z)
def mxK (f : Nat → Int) (h : Int64) : Nat → Int64
  | 0 => h
  | k + 1 => mx (mxK f h k) (f k)
def dgN (F : Nat → Nat → Int) (m : Nat) (h : Int64) : Nat → Int64
  | 0 => h
  | v + 1 => mxK (F v) (dgN F m h v) m
def mNq (ck dl er ra fa ft : Nat → Int) (nd st : Int) (v q : Nat) : Int := mNo ck dl er ra fa ft nd st v (q : Int)
def mL8 (ck dl er : Nat → Int) (v w k : Nat) : Int := if k < 4 then mLk ck dl er v w (k : Int) else mLk ck dl er w v ((k : Int) - 4)
def dgL1 (ck dl er : Nat → Int) (nd : Int) (h : Int64) (v : Nat) : Nat → Int64
  | 0 => h
  | j + 1 => if mBn dl nd v (v + 1 + j) = true then mxK (mL8 ck dl er v (v + 1 + j)) (dgL1 ck dl er nd h v j) 8 else dgL1 ck dl er nd h v j
def dgL (ck dl er : Nat → Int) (nd : Int) (h : Int64) : Nat → Int64
  | 0 => h
  | v + 1 => dgL1 ck dl er nd (dgL ck dl er nd h v) v (nd.toNat - (v + 1))
def mSnq (ck dl : Nat → Int) (nd st ml : Int) (q : Nat) : Int := mSn ck dl nd st ml (q : Int)
def mSpq (ck dl : Nat → Int) (nd : Int) (q : Nat) : Int := mSp ck dl nd ((q + 1 : Nat) : Int)
def dgS (ck dl er ra fa : Nat → Int) (nd st bo ml : Int) (h : Int64) : Int64 := mx (mx (mxK (mSpq ck dl nd) (mxK (mSnq ck dl nd st ml) h 4) 5) (mW dl er ra nd st bo ck fa 3).1) ((mW dl er ra nd st bo ck fa 3).2 : Int)
def mHq (fa : Nat → Int) (nd lk pl ti st bo nr te : Int) (q : Nat) : Int := mHm fa nd lk pl ti st bo nr te (q : Int)
def dgA (ck dl er ra fa ft pg : Nat → Int) (nd lk pl ti st bo nr te ml : Int) : Int64 := mxK (mHq fa nd lk pl ti st bo nr te) (mxK pg (if 0 < nd then dgS ck dl er ra fa nd st bo ml (dgL ck dl er nd (dgN (mNq ck dl er ra fa ft nd st) 9 1663 nd.toNat) nd.toNat) else dgL ck dl er nd (dgN (mNq ck dl er ra fa ft nd st) 9 1663 nd.toNat) nd.toNat) pl.toNat) 9
theorem mB_comm {dl : Nat → Int} {nd : Int} (hsy : ∀ i j : Nat, i < 6 → j < 6 → dl (6 * i + j) = dl (6 * j + i)) (hnd : 0 ≤ nd ∧ nd ≤ 6) {i j : Nat} (h : mB dl nd i j = true) : mB dl nd j i = true := by
  obtain ⟨h1, h2, h3, h4⟩ := mB_nat.mp h
  exact mB_nat.mpr ⟨h2, h1, fun e => h3 e.symm, by rw [hsy j i (by omega) (by omega)]; exact h4⟩
