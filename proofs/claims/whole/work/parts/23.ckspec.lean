-- the class's clocks, in its own words
def xG (pa dy er : Nat → Int) (i j : Nat) : Int := pa ((dy (i * 6 + j)).toNat * 6 + j) + 100 * dy (i * 6 + j) + er (i * 6 + j)
def xDf (pa dy er : Nat → Int) (v w : Nat) : Int := xG pa dy er v w - pa v
def xA (pa dy er nb : Nat → Int) (v : Nat) : Nat → Int
  | 0 => -100000001
  | k + 1 => max (xA pa dy er nb v k) (xDf pa dy er v (nb (v * 6 + k)).toNat)
def xB (pa dy er nb : Nat → Int) (v : Nat) : Nat → Int
  | 0 => -100000001
  | k + 1 => max (xB pa dy er nb v k) (-(xDf pa dy er v (nb (v * 6 + k)).toNat))
theorem xDf_rng {pa dy er : Nat → Int} {v w : Nat} (hpa : ∀ k : Nat, k < 24 → 0 ≤ pa k ∧ pa k ≤ 50000000) (hdy : ∀ k : Nat, k < 36 → 0 ≤ dy k ∧ dy k ≤ 3) (her : ∀ k : Nat, k < 36 → -9 ≤ er k ∧ er k ≤ 9) (hv : v < 6) (hw : w < 6) : -60000000 ≤ xDf pa dy er v w ∧ xDf pa dy er v w ≤ 60000000 := by
  have h1 := hdy (v * 6 + w) (by omega)
  have h2 := hpa ((dy (v * 6 + w)).toNat * 6 + w) (by omega)
  have h3 := her (v * 6 + w) (by omega)
  have h4 := hpa v (by omega)
  unfold xDf xG
  omega
theorem xA_rng {pa dy er nb : Nat → Int} {v : Nat} (hpa : ∀ k : Nat, k < 24 → 0 ≤ pa k ∧ pa k ≤ 50000000) (hdy : ∀ k : Nat, k < 36 → 0 ≤ dy k ∧ dy k ≤ 3) (her : ∀ k : Nat, k < 36 → -9 ≤ er k ∧ er k ≤ 9) (hv : v < 6) : ∀ n : Nat, (∀ k : Nat, k < n → 0 ≤ nb (v * 6 + k) ∧ nb (v * 6 + k) < 6) → (-100000001 ≤ xA pa dy er nb v n ∧ xA pa dy er nb v n ≤ 60000000) ∧ (-100000001 ≤ xB pa dy er nb v n ∧ xB pa dy er nb v n ≤ 60000000)
  | 0, _ => ⟨by rw [xA]; omega, by rw [xB]; omega⟩
  | n + 1, h => by
    have ih := xA_rng hpa hdy her hv n (fun k hk => h k (by omega))
    have h1 := h n (by omega)
    have h2 := xDf_rng (v := v) (w := (nb (v * 6 + n)).toNat) hpa hdy her hv (by omega)
    rw [xA, xB]
    omega
def xUp (ah be sp : Int) : Int := if (2 * lvR be sp + 1) * sp ≤ ah then lvR be sp else -100000001
def dnL (ah sp : Int) : Int := if ah ≤ 2 * sp then 1 else dvU ah (2 * sp)
def xDn (ah be sp : Int) : Int := if 2 * dnL ah sp * sp ≤ be then dnL ah sp else -100000001
theorem dnL_bd {ah sp : Int} (hs : 1 ≤ sp ∧ sp ≤ 500) (ha : ah ≤ 1000000000) : 0 ≤ dnL ah sp ∧ dnL ah sp ≤ 1000001000 ∧ 0 ≤ 2 * dnL ah sp * sp ∧ 2 * dnL ah sp * sp ≤ max (2 * sp) (ah + 2 * sp) ∧ (ah ≤ 2 * sp ∨ ah ≤ 2 * dnL ah sp * sp) := by
  unfold dnL
  split
  · refine ⟨by omega, by omega, by omega, by omega, by omega⟩
  · obtain ⟨h1, h2, h3⟩ := dvU_bd (a := ah) (b := 2 * sp) (by omega) (by omega)
    have h4 : 2 * dvU ah (2 * sp) * sp = dvU ah (2 * sp) * (2 * sp) := by rw [Int.mul_comm 2 (dvU ah (2 * sp)), Int.mul_assoc]
    have h5 : dvU ah (2 * sp) ≤ dvU ah (2 * sp) * (2 * sp) := by
      have := Int.mul_le_mul_of_nonneg_left (show (1 : Int) ≤ 2 * sp by omega) h1
      omega
    rw [h4]
    refine ⟨h1, by omega, by omega, by omega, by omega⟩
theorem lvR_le {be sp : Int} (hs : 1 ≤ sp ∧ sp ≤ 500) (hb : be ≤ 1000000000) : 0 ≤ lvR be sp ∧ lvR be sp ≤ 1000001000 ∧ 0 ≤ (2 * lvR be sp + 1) * sp ∧ (2 * lvR be sp + 1) * sp ≤ max sp (be + 2 * sp) := by
  obtain ⟨h1, h2, h3⟩ := lvR_bd (a := be) (st := sp) hs.1
  have h5 : 2 * lvR be sp + 1 ≤ (2 * lvR be sp + 1) * sp := by
    have := Int.mul_le_mul_of_nonneg_left hs.1 (show (0 : Int) ≤ 2 * lvR be sp + 1 by omega)
    omega
  refine ⟨h1, by omega, by omega, h2⟩
theorem xUp_bd {ah be sp : Int} (hs : 1 ≤ sp ∧ sp ≤ 500) (hb : be ≤ 1000000000) : -100000001 ≤ xUp ah be sp ∧ xUp ah be sp ≤ 1000001000 := by
  have := lvR_le hs hb
  unfold xUp
  split <;> omega
theorem xDn_bd {ah be sp : Int} (hs : 1 ≤ sp ∧ sp ≤ 500) (ha : ah ≤ 1000000000) : -100000001 ≤ xDn ah be sp ∧ xDn ah be sp ≤ 1000001000 := by
  have := dnL_bd hs ha
  unfold xDn
  split <;> omega
def xAh (pa dy er dg nb : Nat → Int) (v : Nat) : Int := xA pa dy er nb v (dg v).toNat
def xBe (pa dy er dg nb : Nat → Int) (v : Nat) : Int := xB pa dy er nb v (dg v).toNat
def xNF (pa fa dy er dg nb : Nat → Int) (sp : Int) (v : Nat) : Int := if xUp (xAh pa dy er dg nb v) (xBe pa dy er dg nb v) sp ≠ -100000001 then 1 else if xDn (xAh pa dy er dg nb v) (xBe pa dy er dg nb v) sp ≠ -100000001 then 0 else fa v
def xFa (pa fa dy er dg nb : Nat → Int) (no sp : Int) : Nat → Int := fun k => if k < no.toNat then xNF pa fa dy er dg nb sp k else fa k
def xPa (pa ra fa dy er dg nb : Nat → Int) (no sp bq : Int) : Nat → Int := fun k => if k < 6 then (if k < no.toNat then pa k + (ra k + xFa pa fa dy er dg nb no sp k * bq) else pa k) else pa (k - 6)
def xFt (pa fa ft dy er dg nb : Nat → Int) (no sp : Int) : Nat → Int := fun k => if k < no.toNat then ft k + xFa pa fa dy er dg nb no sp k else ft k
theorem mix_skip {g old new : Nat → Int} {v N : Nat} (hg : ∀ k : Nat, k < N → g k = if k < v then new k else old k) (hx : new v = old v) : ∀ k : Nat, k < N → g k = if k < v + 1 then new k else old k := by
  intro k hk
  rw [hg k hk]
  by_cases h : k = v
  · subst h; rw [if_neg (by omega), if_pos (by omega), hx]
  · by_cases h2 : k < v
    · rw [if_pos h2, if_pos (by omega)]
    · rw [if_neg h2, if_neg (by omega)]
theorem xFa_01 {pa fa dy er dg nb : Nat → Int} {no sp : Int} (hfa : ∀ k : Nat, k < 6 → fa k = 0 ∨ fa k = 1) : ∀ k : Nat, k < 6 → xFa pa fa dy er dg nb no sp k = 0 ∨ xFa pa fa dy er dg nb no sp k = 1 := by
  intro k hk
  have := hfa k hk
  unfold xFa xNF
  (repeat' split) <;> omega
theorem xPa_bd {pa ra fa dy er dg nb : Nat → Int} {no sp bq B : Int} (hpa : ∀ k : Nat, k < 24 → 0 ≤ pa k ∧ pa k ≤ B) (hra : ∀ k : Nat, k < 6 → 0 ≤ ra k ∧ ra k ≤ 110) (hfa : ∀ k : Nat, k < 6 → fa k = 0 ∨ fa k = 1) (hbq : 1 ≤ bq ∧ bq ≤ 60) : ∀ k : Nat, k < 24 → 0 ≤ xPa pa ra fa dy er dg nb no sp bq k ∧ xPa pa ra fa dy er dg nb no sp bq k ≤ B + 170 := by
  intro k hk
  have h1 := hpa k hk
  unfold xPa
  split
  · rename_i h6
    split
    · have h3 := hra k h6
      rcases xFa_01 (pa := pa) (dy := dy) (er := er) (dg := dg) (nb := nb) (no := no) (sp := sp) hfa k h6 with h | h <;> rw [h] <;> omega
    · omega
  · have := hpa (k - 6) (by omega)
    omega
-- skews
def shP (P : Nat → Nat → Bool) (v j : Nat) : Bool := P v (v + 1 + j)
def shF (f : Nat → Nat → Int) (v j : Nat) : Int := f v (v + 1 + j)
def dfx (P : Nat → Nat → Bool) (f : Nat → Nat → Int) (a : Int) (n : Nat) : Nat → Int
  | 0 => a
  | v + 1 => fmx (shP P v) (shF f v) (dfx P f a n v) (n - (v + 1))
def xSk (pa : Nat → Int) (i j : Nat) : Int := aD (pa i) (pa j)
theorem xSk_rng {pa : Nat → Int} (hpa : ∀ k : Nat, k < 24 → 0 ≤ pa k ∧ pa k ≤ 50000000) {i j : Nat} (hi : i < 6) (hj : j < 6) : 0 ≤ xSk pa i j ∧ xSk pa i j ≤ 50000000 := aD_bd (hpa _ (by omega)) (hpa _ (by omega))
def xHo (wy : Nat → Int) (v w : Nat) : Int := if wy (v * 6 + w) < 1000 then wy (v * 6 + w) else -100000001
def xHp (wy : Nat → Int) (z : Int) (v w : Nat) : Bool := decide (xHo wy v w = z)
def xSp (pa wy : Nat → Int) (no z : Int) : Int := dfx (xHp wy z) (xSk pa) (-100000001) no.toNat no.toNat
def xGl (pa : Nat → Int) (no : Int) : Int := dfx mTt (xSk pa) 0 no.toNat no.toNat
theorem dfx_ge (P : Nat → Nat → Bool) (f : Nat → Nat → Int) (a : Int) (n : Nat) : ∀ v : Nat, a ≤ dfx P f a n v
  | 0 => Int.le_refl a
  | v + 1 => Int.le_trans (dfx_ge P f a n v) (fmx_ge _ _ _ _)
theorem dfx_le {P : Nat → Nat → Bool} {f : Nat → Nat → Int} {a b : Int} {n : Nat} (ha : a ≤ b) (h : ∀ v w : Nat, v < n → w < n → f v w ≤ b) : ∀ v : Nat, dfx P f a n v ≤ b
  | 0 => ha
  | v + 1 => fmx_le (dfx_le ha h v) _ (fun w hw => h v (v + 1 + w) (by omega) (by omega))
theorem xSp_rng {pa wy : Nat → Int} {no z : Int} (hpa : ∀ k : Nat, k < 24 → 0 ≤ pa k ∧ pa k ≤ 50000000) (hno : 0 ≤ no ∧ no ≤ 6) : -100000001 ≤ xSp pa wy no z ∧ xSp pa wy no z ≤ 50000000 := ⟨dfx_ge _ _ _ _ _, dfx_le (by omega) (fun v w hv hw => (xSk_rng hpa (by omega) (by omega)).2) _⟩
def tcC (pa : Nat → Int) (v : Nat) (z : Int) : Nat → Int := fun k => if k % 6 = v then z else pa k
/-- delays behind so many links of a text -/
def dS (t dy : Nat → Int) : Nat → Nat → Int
  | 0 => dy
  | i + 1 => va_up (va_up (dS t dy i) ((tD t (2 + 4 * i)).toNat * 6 + (tD t (3 + 4 * i)).toNat) (tD t (4 + 4 * i))) ((tD t (3 + 4 * i)).toNat * 6 + (tD t (2 + 4 * i)).toNat) (tD t (4 + 4 * i))
theorem fau_all {t : Nat → Int} {n : Nat} (h : fau t n = n) : ∀ j : Nat, j < n → fit t j = true := by
  intro j hj
  have := (xFF_spec (fit t) n 0).2.2.1 j (Nat.zero_le j)
  unfold fau at h
  rw [h] at this
  exact this hj
theorem jOK_w {t : Nat → Int} {l : Nat} {dg nb wy : Nat → Int} (h : jOK t l dg nb wy) : wOK wy := by
  intro k hk
  have := h.2.2.2 (k / 6) (k % 6) (by omega) (by omega)
  rw [show k / 6 * 6 + k % 6 = k by omega] at this
  rw [this]
  (repeat' split) <;> omega
theorem fmx_max {P : Nat → Bool} {f : Nat → Int} {a x y : Int} {w : Nat} (h : P w = true) (hx : x = max y (f w)) (hy : y = fmx P f a w) : x = fmx P f a (w + 1) := by
  by_cases h2 : fmx P f a w < f w
  · rw [fmx_yes h h2, hx]; omega
  · rw [fmx_no (fun q => h2 q.2), ← hy, hx]; omega
