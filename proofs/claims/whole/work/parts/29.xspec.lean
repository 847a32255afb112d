-- out of kit/laws/BITS.to-paste
theorem wb_tb (n : Nat) : (lN n).toBitVec = BitVec.ofNat 64 n := rfl
theorem wb_inj {a b : Int64} (h : a.toBitVec = b.toBitVec) : a = b := Int64.toBitVec_inj.mp h
theorem wb_c : ∀ k, k < 64 → ((nI k).toInt64 &&& 63) = lN k := by decide +kernel
theorem wb_sm : ∀ k, k < 64 → (BitVec.ofNat 64 k).smod 64 = BitVec.ofNat 64 k := by decide +kernel
theorem wb_lt2 {a b : Nat} (h : a < b) : 2 ^ a < 2 ^ b := Nat.pow_lt_pow_right (by decide) h
theorem wb_shl (n : Nat) {k : Nat} (hk : k < 64) : lN n <<< ((nI k).toInt64 &&& 63) = lN (n * 2 ^ k) := by
  rw [wb_c k hk]
  apply wb_inj
  rw [Int64.toBitVec_shiftLeft, wb_tb, wb_tb, wb_tb, wb_sm k hk]
  apply BitVec.eq_of_toNat_eq
  rw [BitVec.shiftLeft_eq', BitVec.toNat_shiftLeft, BitVec.toNat_ofNat, BitVec.toNat_ofNat, BitVec.toNat_ofNat, Nat.mod_eq_of_lt (show k < 2 ^ 64 by omega), Nat.shiftLeft_eq, Nat.mul_mod, Nat.mod_mod, ← Nat.mul_mod]
theorem wb_and {a b : Nat} (ha : a < 2 ^ 64) (hb : b < 2 ^ 64) : lN a &&& lN b = lN (a &&& b) := by
  apply wb_inj
  rw [Int64.toBitVec_and, wb_tb, wb_tb, wb_tb]
  apply BitVec.eq_of_toNat_eq
  rw [BitVec.toNat_and, BitVec.toNat_ofNat, BitVec.toNat_ofNat, BitVec.toNat_ofNat, Nat.mod_eq_of_lt ha, Nat.mod_eq_of_lt hb, Nat.mod_eq_of_lt (Nat.and_lt_two_pow _ hb)]
theorem wb_mask {n k : Nat} (hn : n < 2 ^ 64) (hk : k < 64) : lN n &&& lN (2 ^ k - 1) = lN (n % 2 ^ k) := by
  rw [wb_and hn (by have := wb_lt2 hk; omega), Nat.and_two_pow_sub_one_eq_mod]
theorem u_tn {n : Nat} (h : n < 2 ^ 64) : (UInt64.ofNat n).toNat = n := Nat.mod_eq_of_lt h
theorem g_or {k p a b : Nat} (hp : 2 ^ k = p) (ha : a < p) (h : b * p + a < 2 ^ 64) : lN (b * p) ||| lN a = lN (b * p + a) := by
  subst hp
  have h1 : b * 2 ^ k ||| a = b * 2 ^ k + a := by rw [← Nat.shiftLeft_eq, Nat.shiftLeft_add_eq_or_of_lt ha]
  have h3 : UInt64.ofNat (b * 2 ^ k) ||| UInt64.ofNat a = UInt64.ofNat (b * 2 ^ k + a) := UInt64.toNat_inj.mp (by rw [UInt64.toNat_or, u_tn (by omega), u_tn (by omega), u_tn h, h1])
  have h2 := congrArg UInt64.toInt64 h3
  exact h2
theorem pf_lI {a : Nat} (h : a < 2 ^ 63) : (lN a).toInt = (a : Int) := lg_ofNat_toInt h
theorem pf_shr {a d : Nat} {D : Int64} (hD : (D.toBitVec.smod 64).toNat = d) (h : a < 2 ^ 62) : lN a >>> D = lN (a / 2 ^ d) := by
  have hd : a / 2 ^ d ≤ a := Nat.div_le_self _ _
  apply Int64.toInt_inj.mp
  have e : (lN a >>> D).toInt = (lN a).toInt >>> d := by
    rw [← hD]
    exact BitVec.toInt_sshiftRight ..
  rw [e, Int.shiftRight_eq_div_pow, pf_lI (by omega), pf_lI (by omega)]
  rfl
-- the class's long that holds a skew and a set
def pkL (g b : Int) : Int64 := (Int32.toInt64 (iI g) <<< (Int32.toInt64 (iI 6) &&& 63)) ||| Int32.toInt64 (iI b)
theorem pkL_eq {g b : Nat} (hg : g < 100000000) (hb : b < 64) : pkL g b = lN (g * 64 + b) := by
  unfold pkL
  rw [← iI_nat, ← iI_nat, nI_l (by omega), nI_l (by omega), show iI 6 = nI 6 from rfl, wb_shl g (by decide)]
  exact g_or (k := 6) rfl hb (by omega)
theorem pkL_g {g b : Int} (hg : 0 ≤ g ∧ g < 100000000) (hb : 0 ≤ b ∧ b < 64) : (pkL g b >>> (Int32.toInt64 (iI 6) &&& 63)).toInt32 = iI g := by
  obtain ⟨x, rfl⟩ : ∃ x : Nat, g = x := ⟨g.toNat, by omega⟩
  obtain ⟨y, rfl⟩ : ∃ y : Nat, b = y := ⟨b.toNat, by omega⟩
  rw [pkL_eq (by omega) (by omega), pf_shr (d := 6) (by decide +kernel) (by omega), lN_i, iI_nat, show (x * 64 + y) / 2 ^ 6 = x by omega]
theorem pkL_b {g b : Int} (hg : 0 ≤ g ∧ g < 100000000) (hb : 0 ≤ b ∧ b < 64) : (pkL g b &&& 63).toInt32 = iI b := by
  obtain ⟨x, rfl⟩ : ∃ x : Nat, g = x := ⟨g.toNat, by omega⟩
  obtain ⟨y, rfl⟩ : ∃ y : Nat, b = y := ⟨b.toNat, by omega⟩
  rw [pkL_eq (by omega) (by omega), show (63 : Int64) = lN (2 ^ 6 - 1) from rfl, wb_mask (by omega) (by decide), lN_i, iI_nat, show (x * 64 + y) % 2 ^ 6 = y by omega]
-- what the class answers, in its own words
def xNo (pa ra fa ft dy er dg nb : Nat → Int) (no sp z q : Int) : Int := if ¬ (0 ≤ z ∧ z < no) then -100000002 else if q = 0 then pa z.toNat else if q = 1 then ra z.toNat else if q = 2 then fa z.toNat else if q = 3 then dg z.toNat else if q = 4 then xAh pa dy er dg nb z.toNat else if q = 5 then xBe pa dy er dg nb z.toNat else if q = 6 then xUp (xAh pa dy er dg nb z.toNat) (xBe pa dy er dg nb z.toNat) sp else if q = 7 then xDn (xAh pa dy er dg nb z.toNat) (xBe pa dy er dg nb z.toNat) sp else if q = 8 then ft z.toNat else -100000003
def xHL (wy : Nat → Int) (no z w : Int) : Bool := decide ((0 ≤ z ∧ z < no) ∧ (0 ≤ w ∧ w < no) ∧ wy ((z * 6 + w).toNat) = 1)
theorem xHL_iff {wy : Nat → Int} {no z w : Int} : xHL wy no z w = true ↔ ((0 ≤ z ∧ z < no) ∧ (0 ≤ w ∧ w < no) ∧ wy ((z * 6 + w).toNat) = 1) := decide_eq_true_iff
def xLk (pa dy er wy : Nat → Int) (no z w q : Int) : Int := if ¬ xHL wy no z w = true then -100000002 else if q = 0 then dy (z * 6 + w).toNat else if q = 1 then er (z * 6 + w).toNat else if q = 2 then xG pa dy er z.toNat w.toNat else if q = 3 then xSk pa z.toNat w.toNat else -100000003
def xSw (pa wy : Nat → Int) (no sp gr z : Int) : Int := if ¬ (0 ≤ z ∧ z ≤ 3) then -100000003 else if ¬ 0 < no then -100000004 else if z = 0 then xSp pa wy no 1 else if z = 1 then xGl pa no else if z = 2 then lvR (xSp pa wy no 1) sp else gr
def xSr (pa wy : Nat → Int) (no z : Int) : Int := if ¬ (1 ≤ z ∧ z ≤ 5) then -100000003 else if ¬ 0 < no then -100000004 else xSp pa wy no z
def xCt (fa : Nat → Int) (no li le ti sp bo nr te9 z : Int) : Int := if z = 0 then no else if z = 1 then li else if z = 2 then le else if z = 3 then ti else if z = 4 then sp else if z = 5 then bo else if z = 6 then sumF fa no.toNat else if z = 7 then nr else if z = 8 then te9 else -100000003
-- ticks on end, of the class
def xIS (dy er dg nb ra : Nat → Int) (no sp bq : Int) (pa fa : Nat → Int) : Nat → (Nat → Int) × (Nat → Int)
  | 0 => (pa, fa)
  | i + 1 => (xPa (xIS dy er dg nb ra no sp bq pa fa i).1 ra (xIS dy er dg nb ra no sp bq pa fa i).2 dy er dg nb no sp bq, xFa (xIS dy er dg nb ra no sp bq pa fa i).1 (xIS dy er dg nb ra no sp bq pa fa i).2 dy er dg nb no sp)
def xIT (dy er dg nb ra : Nat → Int) (no sp bq : Int) (pa fa ft : Nat → Int) : Nat → Nat → Int
  | 0 => ft
  | i + 1 => xFt (xIS dy er dg nb ra no sp bq pa fa i).1 (xIS dy er dg nb ra no sp bq pa fa i).2 (xIT dy er dg nb ra no sp bq pa fa ft i) dy er dg nb no sp
def xIM (dy er dg nb ra wy : Nat → Int) (no sp bq : Int) (pa fa : Nat → Int) (gr : Int) : Nat → Int
  | 0 => gr
  | i + 1 => max (xIM dy er dg nb ra wy no sp bq pa fa gr i) (xSp (xIS dy er dg nb ra no sp bq pa fa (i + 1)).1 wy no 1)
theorem xIS_bd {dy er dg nb ra pa fa : Nat → Int} {no sp bq B : Int} (hpa : ∀ k : Nat, k < 24 → 0 ≤ pa k ∧ pa k ≤ B) (hfa : ∀ k : Nat, k < 6 → fa k = 0 ∨ fa k = 1) (hra : ∀ k : Nat, k < 6 → 0 ≤ ra k ∧ ra k ≤ 110) (hbq : 1 ≤ bq ∧ bq ≤ 60) : ∀ i : Nat, (∀ k : Nat, k < 24 → 0 ≤ (xIS dy er dg nb ra no sp bq pa fa i).1 k ∧ (xIS dy er dg nb ra no sp bq pa fa i).1 k ≤ B + 170 * i) ∧ ∀ k : Nat, k < 6 → (xIS dy er dg nb ra no sp bq pa fa i).2 k = 0 ∨ (xIS dy er dg nb ra no sp bq pa fa i).2 k = 1
  | 0 => ⟨fun k hk => by have := hpa k hk; show 0 ≤ pa k ∧ pa k ≤ _; omega, hfa⟩
  | i + 1 => by
    obtain ⟨h1, h2⟩ := xIS_bd (dy := dy) (er := er) (dg := dg) (nb := nb) (no := no) (sp := sp) hpa hfa hra hbq i
    refine ⟨fun k hk => ?_, xFa_01 h2⟩
    have := xPa_bd (dy := dy) (er := er) (dg := dg) (nb := nb) (no := no) (sp := sp) h1 hra h2 hbq k hk
    show 0 ≤ xPa _ _ _ _ _ _ _ _ _ _ k ∧ xPa _ _ _ _ _ _ _ _ _ _ k ≤ _
    omega
def xWl (dy er dg nb ra wy : Nat → Int) (no sp bq : Int) (pa fa : Nat → Int) (n b : Nat) : Int := xSp (xIS dy er dg nb (rW ra no b) no sp bq pa fa n).1 wy no 1
def xWo (dy er dg nb ra wy : Nat → Int) (no sp bq : Int) (pa fa : Nat → Int) (n : Nat) : Nat → Int × Nat
  | 0 => (-1, 0)
  | b + 1 => if (xWo dy er dg nb ra wy no sp bq pa fa n b).1 < xWl dy er dg nb ra wy no sp bq pa fa n b then (xWl dy er dg nb ra wy no sp bq pa fa n b, b) else xWo dy er dg nb ra wy no sp bq pa fa n b
def xW9 (dy er dg nb ra wy : Nat → Int) (no sp bq : Int) (pa fa : Nat → Int) (n : Nat) : Int × Nat := xWo dy er dg nb ra wy no sp bq pa fa n (2 ^ no.toNat)
theorem rW_eq {ga ra : Nat → Int} {no : Int} (h : ∀ v : Nat, ¬ v < no.toNat → ga v = ra v) (b : Nat) : rW ga no b = rW ra no b := by
  funext v
  unfold rW
  split
  · rfl
  · rename_i q; exact h v q
theorem xSp_pos {pa wy : Nat → Int} {no : Int} (hpa : ∀ k : Nat, k < 24 → 0 ≤ pa k ∧ pa k ≤ 50000000) (hno : 0 ≤ no ∧ no ≤ 6) (hlk : ∃ v w : Nat, v < w ∧ (w : Int) < no ∧ wy (v * 6 + w) = 1) : 0 ≤ xSp pa wy no 1 := by
  obtain ⟨v, w, h1, h2, h3⟩ := hlk
  have hstep : ∀ m : Nat, v < m → 0 ≤ dfx (xHp wy 1) (xSk pa) (-100000001) no.toNat m := by
    intro m
    induction m with
    | zero => intro q; exact absurd q (Nat.not_lt_zero v)
    | succ m ih =>
      intro q
      rw [dfx]
      by_cases e : v = m
      · subst e
        have := fmx_up (P := shP (xHp wy 1) v) (f := shF (xSk pa) v) (a := dfx (xHp wy 1) (xSk pa) (-100000001) no.toNat v) (no.toNat - (v + 1)) (w - (v + 1)) (by omega) (by
          show xHp wy 1 v (v + 1 + (w - (v + 1))) = true
          rw [show v + 1 + (w - (v + 1)) = w by omega, xHp, decide_eq_true_iff, xHo, h3]
          rfl)
        have h4 := (xSk_rng hpa (show v < 6 by omega) (show v + 1 + (w - (v + 1)) < 6 by omega)).1
        exact Int.le_trans h4 this
      · exact Int.le_trans (ih (by omega)) (fmx_ge _ _ _ _)
  exact hstep no.toNat (by omega)
def xNq (pa ra fa ft dy er dg nb : Nat → Int) (no sp : Int) (v q : Nat) : Int := xNo pa ra fa ft dy er dg nb no sp v q
def xLq (pa dy er wy : Nat → Int) (no : Int) (v w q : Nat) : Int := xLk pa dy er wy no v w q
def dgX1 (pa dy er wy : Nat → Int) (no : Int) (h : Int64) (v : Nat) : Nat → Int64
  | 0 => h
  | j + 1 => if xHL wy no v ((v + 1 + j : Nat) : Int) = true then mxK (xLq pa dy er wy no (v + 1 + j) v) (mxK (xLq pa dy er wy no v (v + 1 + j)) (dgX1 pa dy er wy no h v j) 4) 4 else dgX1 pa dy er wy no h v j
def dgX (pa dy er wy : Nat → Int) (no : Int) (h : Int64) : Nat → Int64
  | 0 => h
  | v + 1 => dgX1 pa dy er wy no (dgX pa dy er wy no h v) v (no.toNat - (v + 1))
def xSwq (pa wy : Nat → Int) (no sp gr : Int) (q : Nat) : Int := xSw pa wy no sp gr q
def xSrq (pa wy : Nat → Int) (no : Int) (q : Nat) : Int := xSr pa wy no ((q + 1 : Nat) : Int)
def dgXS (pa ra fa dy er dg nb wy : Nat → Int) (no sp bo gr : Int) (h : Int64) : Int64 := mx (mx (mxK (xSrq pa wy no) (mxK (xSwq pa wy no sp gr) h 4) 5) (xW9 dy er dg nb ra wy no sp bo pa fa 3).1) ((xW9 dy er dg nb ra wy no sp bo pa fa 3).2 : Int)
def xCq (fa : Nat → Int) (no li le ti sp bo nr te9 : Int) (q : Nat) : Int := xCt fa no li le ti sp bo nr te9 q
def dgXA (pa ra fa ft dy er dg nb wy te : Nat → Int) (no li le ti gr sp bo nr te9 : Int) : Int64 := mxK (xCq fa no li le ti sp bo nr te9) (mxK te (if 0 < no then dgXS pa ra fa dy er dg nb wy no sp bo gr (dgX pa dy er wy no (dgN (xNq pa ra fa ft dy er dg nb no sp) 9 1663 no.toNat) no.toNat) else dgX pa dy er wy no (dgN (xNq pa ra fa ft dy er dg nb no sp) 9 1663 no.toNat) no.toNat) le.toNat) 9
