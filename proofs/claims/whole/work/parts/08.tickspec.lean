theorem up_lt {g P : Nat → Int} {v : Nat} {x : Int} (hg : ∀ k : Nat, k < v → g k = P k) (hx : x = P v) : ∀ k : Nat, k < v + 1 → va_up g v x k = P k := by
  intro k hk
  by_cases h : k = v
  · subst h; rw [up_s]; exact hx
  · rw [up_n _ _ _ h]; exact hg k (by omega)
theorem up_mix {g old new : Nat → Int} {v N : Nat} {x : Int} (hg : ∀ k : Nat, k < N → g k = if k < v then new k else old k) (hx : x = new v) : ∀ k : Nat, k < N → va_up g v x k = if k < v + 1 then new k else old k := by
  intro k hk
  by_cases h : k = v
  · subst h; rw [up_s, if_pos (by omega)]; exact hx
  · rw [up_n _ _ _ h, hg k hk]
    by_cases h2 : k < v
    · rw [if_pos h2, if_pos (by omega)]
    · rw [if_neg h2, if_neg (by omega)]
theorem mix_at {g old new : Nat → Int} {v N : Nat} (hg : ∀ k : Nat, k < N → g k = if k < v then new k else old k) (hv : v < N) : g v = old v := by rw [hg v hv, if_neg (by omega)]
theorem mix_0 {old new : Nat → Int} {N : Nat} : ∀ k : Nat, k < N → old k = if k < 0 then new k else old k := fun k _ => by rw [if_neg (by omega)]
-- a tick of the reference
def mTu (ck dl er : Nat → Int) (nd st : Int) (v : Nat) : Int := if mUp st (mOf ck dl er nd 1 v nd.toNat) (mOf ck dl er nd 0 v nd.toNat) ≠ -100000001 then 1 else if mDn st (mOf ck dl er nd 1 v nd.toNat) (mOf ck dl er nd 0 v nd.toNat) ≠ -100000001 then -1 else 0
def mFa (tu fa : Nat → Int) (v : Nat) : Int := if tu v = 1 ∨ (tu v = 0 ∧ fa v = 1) then 1 else 0
theorem mFa_01 (tu fa : Nat → Int) (v : Nat) : mFa tu fa v = 0 ∨ mFa tu fa v = 1 := by unfold mFa; split <;> omega
def mCk (ck ra nf : Nat → Int) (bo : Int) (k : Nat) : Int := if k % 4 = 0 then ck k + (ra (k / 4) + nf (k / 4) * bo) else ck (k - 1)
def sh4 (gc : Nat → Int) (v : Nat) : Nat → Int := va_up (va_up (va_up gc (4 * v + 3) (gc (4 * v + 2))) (4 * v + 2) (gc (4 * v + 1))) (4 * v + 1) (gc (4 * v))
theorem sh4_at (gc : Nat → Int) (v : Nat) : sh4 gc v (4 * v) = gc (4 * v) := by
  unfold sh4
  rw [up_n _ _ _ (by omega), up_n _ _ _ (by omega), up_n _ _ _ (by omega)]
theorem sh4_mix {gc ck new : Nat → Int} {v : Nat} {x : Int} (hg : ∀ k : Nat, k < 24 → gc k = if k / 4 < v then new k else ck k) (hv : v < 6) (hx : x = new (4 * v)) (h1 : ∀ j : Nat, 1 ≤ j → j ≤ 3 → new (4 * v + j) = ck (4 * v + j - 1)) : ∀ k : Nat, k < 24 → va_up (sh4 gc v) (4 * v) x k = if k / 4 < v + 1 then new k else ck k := by
  intro k hk
  have hq : ∀ j : Nat, j ≤ 3 → gc (4 * v + j) = ck (4 * v + j) := fun j hj => by rw [hg _ (by omega), if_neg (by omega)]
  by_cases h0 : k = 4 * v
  · subst h0; rw [up_s, if_pos (by omega)]; exact hx
  rw [up_n _ _ _ h0]
  unfold sh4
  by_cases e1 : k = 4 * v + 1
  · subst e1; rw [up_s, if_pos (by omega), h1 1 (by omega) (by omega)]; exact hq 0 (by omega)
  rw [up_n _ _ _ e1]
  by_cases e2 : k = 4 * v + 2
  · subst e2; rw [up_s, if_pos (by omega), h1 2 (by omega) (by omega)]; exact hq 1 (by omega)
  rw [up_n _ _ _ e2]
  by_cases e3 : k = 4 * v + 3
  · subst e3; rw [up_s, if_pos (by omega), h1 3 (by omega) (by omega)]; exact hq 2 (by omega)
  rw [up_n _ _ _ e3, hg k hk]
  by_cases h2 : k / 4 < v
  · rw [if_pos h2, if_pos (by omega)]
  · rw [if_neg h2, if_neg (by omega)]
def stC (ck : Nat → Int) (v : Nat) (z : Int) : Nat → Int := fun k => if k / 4 = v then z else ck k
def tFa (ck dl er fa : Nat → Int) (nd st : Int) : Nat → Int := fun k => if k < nd.toNat then mFa (mTu ck dl er nd st) fa k else fa k
def tFt (ck dl er fa ft : Nat → Int) (nd st : Int) : Nat → Int := fun k => if k < nd.toNat then ft k + mFa (mTu ck dl er nd st) fa k else ft k
def tCk (ck dl er fa ra : Nat → Int) (nd st bo : Int) : Nat → Int := fun k => if k / 4 < nd.toNat then mCk ck ra (mFa (mTu ck dl er nd st) fa) bo k else ck k
