def pgW (cI cZ : ClassId) (p p1 : Nat) (le : Int) (te : Nat → Int) : va_W := [(p, .inr (2, [.ref p1, .int (iI le)])), (p1, aI cI 61 te)]
def ntW (cI cZ : ClassId) (n n1 n2 n3 : Nat) (no li : Int) (dg nb wy : Nat → Int) : va_W := [(n, .inr (1, [.ref n1, .ref n2, .ref n3, .int (iI no), .int (iI li)])), (n1, aI cI 6 dg), (n2, aI cI 36 nb), (n3, aI cI 36 wy)]
def ckW (cI cZ : ClassId) (c c1 c2 c3 c4 c5 c6 n n1 n2 n3 : Nat) (pa ra fa ft dy er : Nat → Int) (ti gr ah be no li : Int) (dg nb wy : Nat → Int) : va_W := [(c, .inr (0, [.ref n, .ref c1, .ref c2, .ref c3, .ref c4, .ref c5, .ref c6, .int (iI ti), .int (iI gr), .int (iI ah), .int (iI be)])), (c1, aI cI 24 pa), (c2, aI cI 6 ra), (c3, aI cI 6 fa), (c4, aI cI 6 ft), (c5, aI cI 36 dy), (c6, aI cI 36 er), (n, .inr (1, [.ref n1, .ref n2, .ref n3, .int (iI no), .int (iI li)])), (n1, aI cI 6 dg), (n2, aI cI 36 nb), (n3, aI cI 36 wy)]
def cfW (cI cZ : ClassId) (c c1 c2 c3 c4 c5 c6 f f1 f2 f3 f4 f5 f6 n : Nat) (pa ra fa ft dy er : Nat → Int) (ti gr ah be : Int) (paf raf faf ftf dyf erf : Nat → Int) (tif grf ahf bef : Int) : va_W := [(c, .inr (0, [.ref n, .ref c1, .ref c2, .ref c3, .ref c4, .ref c5, .ref c6, .int (iI ti), .int (iI gr), .int (iI ah), .int (iI be)])), (c1, aI cI 24 pa), (c2, aI cI 6 ra), (c3, aI cI 6 fa), (c4, aI cI 6 ft), (c5, aI cI 36 dy), (c6, aI cI 36 er), (f, .inr (0, [.ref n, .ref f1, .ref f2, .ref f3, .ref f4, .ref f5, .ref f6, .int (iI tif), .int (iI grf), .int (iI ahf), .int (iI bef)])), (f1, aI cI 24 paf), (f2, aI cI 6 raf), (f3, aI cI 6 faf), (f4, aI cI 6 ftf), (f5, aI cI 36 dyf), (f6, aI cI 36 erf)]
def npW (cI cZ : ClassId) (n n1 n2 n3 p p1 : Nat) (no li : Int) (dg nb wy : Nat → Int) (le : Int) (te : Nat → Int) : va_W := [(n, .inr (1, [.ref n1, .ref n2, .ref n3, .int (iI no), .int (iI li)])), (n1, aI cI 6 dg), (n2, aI cI 36 nb), (n3, aI cI 36 wy), (p, .inr (2, [.ref p1, .int (iI le)])), (p1, aI cI 61 te)]
def cpW (cI cZ : ClassId) (c c1 c2 c3 c4 c5 c6 n n1 n2 n3 p p1 : Nat) (pa ra fa ft dy er : Nat → Int) (ti gr ah be no li : Int) (dg nb wy : Nat → Int) (le : Int) (te : Nat → Int) : va_W := [(c, .inr (0, [.ref n, .ref c1, .ref c2, .ref c3, .ref c4, .ref c5, .ref c6, .int (iI ti), .int (iI gr), .int (iI ah), .int (iI be)])), (c1, aI cI 24 pa), (c2, aI cI 6 ra), (c3, aI cI 6 fa), (c4, aI cI 6 ft), (c5, aI cI 36 dy), (c6, aI cI 36 er), (n, .inr (1, [.ref n1, .ref n2, .ref n3, .int (iI no), .int (iI li)])), (n1, aI cI 6 dg), (n2, aI cI 36 nb), (n3, aI cI 36 wy), (p, .inr (2, [.ref p1, .int (iI le)])), (p1, aI cI 61 te)]
def xW (cI cZ : ClassId) (x p p1 n n1 n2 n3 a a1 a2 a3 a4 a5 a6 k k1 k2 k3 k4 k5 k6 t t1 t2 t3 t4 t5 t6 : Nat) (le : Int) (te : Nat → Int) (no li : Int) (dg nb wy pa ra fa ft dy er : Nat → Int) (ti gr ah be : Int) (pak rak fak ftk dyk erk : Nat → Int) (tik grk ahk bek : Int) (pat rat fat ftt dyt ert : Nat → Int) (tit grt aht bet ik sp bo nr te9 : Int) : va_W := [(x, .inr (3, [.ref p, .ref n, .ref a, .ref k, .ref t, .int (iI ik), .int (iI sp), .int (iI bo), .int (iI nr), .int (iI te9)])), (p, .inr (2, [.ref p1, .int (iI le)])), (p1, aI cI 61 te), (n, .inr (1, [.ref n1, .ref n2, .ref n3, .int (iI no), .int (iI li)])), (n1, aI cI 6 dg), (n2, aI cI 36 nb), (n3, aI cI 36 wy), (a, .inr (0, [.ref n, .ref a1, .ref a2, .ref a3, .ref a4, .ref a5, .ref a6, .int (iI ti), .int (iI gr), .int (iI ah), .int (iI be)])), (a1, aI cI 24 pa), (a2, aI cI 6 ra), (a3, aI cI 6 fa), (a4, aI cI 6 ft), (a5, aI cI 36 dy), (a6, aI cI 36 er), (k, .inr (0, [.ref n, .ref k1, .ref k2, .ref k3, .ref k4, .ref k5, .ref k6, .int (iI tik), .int (iI grk), .int (iI ahk), .int (iI bek)])), (k1, aI cI 24 pak), (k2, aI cI 6 rak), (k3, aI cI 6 fak), (k4, aI cI 6 ftk), (k5, aI cI 36 dyk), (k6, aI cI 36 erk), (t, .inr (0, [.ref n, .ref t1, .ref t2, .ref t3, .ref t4, .ref t5, .ref t6, .int (iI tit), .int (iI grt), .int (iI aht), .int (iI bet)])), (t1, aI cI 24 pat), (t2, aI cI 6 rat), (t3, aI cI 6 fat), (t4, aI cI 6 ftt), (t5, aI cI 36 dyt), (t6, aI cI 36 ert)]
def mdW (cI cZ : ClassId) (h m1 m4 m5 m6 m7 m8 m9 m21 m22 m23 m24 m25 m26 m30 m31 m32 m33 m34 m35 : Nat) (pl nd lk st bo ti te nr ml nn nl du nO nT wm wb ik kt kl : Int) (hh : Int64) (pg dl er ra ck fa ft nw tu tc tr tf tt kc kr ke kd kf kg : Nat → Int) : va_W := [(h, .inr (4, [.int (iI pl), .ref m1, .int (iI nd), .int (iI lk), .ref m4, .ref m5, .ref m6, .ref m7, .ref m8, .ref m9, .int (iI st), .int (iI bo), .int (iI ti), .int (iI te), .int (iI nr), .int (iI ml), .int (iI nn), .int (iI nl), .int (iI du), .int (iI nO), .int (iI nT), .ref m21, .ref m22, .ref m23, .ref m24, .ref m25, .ref m26, .int (iI wm), .int (iI wb), .int (iI ik), .ref m30, .ref m31, .ref m32, .ref m33, .ref m34, .ref m35, .int (iI kt), .int (iI kl), .long hh])), (m1, aI cI 61 pg), (m4, aI cI 36 dl), (m5, aI cI 36 er), (m6, aI cI 6 ra), (m7, aI cI 24 ck), (m8, aI cZ 6 fa), (m9, aI cI 6 ft), (m21, aI cI 36 nw), (m22, aI cI 6 tu), (m23, aI cI 24 tc), (m24, aI cI 6 tr), (m25, aI cZ 6 tf), (m26, aI cI 6 tt), (m30, aI cI 24 kc), (m31, aI cI 6 kr), (m32, aI cI 36 ke), (m33, aI cI 36 kd), (m34, aI cZ 6 kf), (m35, aI cI 6 kg)]
-- the class's own words: page
def pgL (te : Nat → Int) (le : Int) (z : Int) : Int := if 0 ≤ z ∧ z < le then te z.toNat else (-100000001)
theorem pgL_in {te : Nat → Int} {le z : Int} (h : 0 ≤ z ∧ z < le) : pgL te le z = te z.toNat := if_pos h
theorem pgL_out {te : Nat → Int} {le z : Int} (h : ¬ (0 ≤ z ∧ z < le)) : pgL te le z = (-100000001) := if_neg h
theorem pgL_rng {te : Nat → Int} {le : Int} (hte : ∀ k : Nat, k < 61 → 0 ≤ te k ∧ te k ≤ 126) (hle : 0 ≤ le ∧ le ≤ 61) (z : Int) : -100000001 ≤ pgL te le z ∧ pgL te le z ≤ 126 := by
  by_cases h : 0 ≤ z ∧ z < le
  · rw [pgL_in h]
    have := hte z.toNat (by omega)
    omega
  · rw [pgL_out h]
    omega
-- levels
def dvU (a b : Int) : Int := if b < 1 then 0 else (a + b - 1) / b
def lvR (a st : Int) : Int := if a ≤ st then 0 else dvU (a - st) (2 * st)
theorem dvU_pos {a b : Int} (hb : 1 ≤ b) : dvU a b = (a + b - 1) / b := if_neg (by omega)
theorem dvU_bd {a b : Int} (ha : 0 ≤ a) (hb : 1 ≤ b) : 0 ≤ dvU a b ∧ dvU a b * b ≤ a + b - 1 ∧ a ≤ dvU a b * b := by
  rw [dvU_pos hb]
  have h1 := Int.emod_nonneg (a + b - 1) (b := b) (by omega)
  have h2 := Int.emod_lt_of_pos (a + b - 1) (b := b) (by omega)
  have h3 := Int.emod_def (a + b - 1) b
  have h4 : 0 ≤ (a + b - 1) / b := Int.ediv_nonneg (by omega) (by omega)
  rw [Int.mul_comm] at h3
  refine ⟨h4, ?_, ?_⟩ <;> omega
theorem lvR_lo {a st : Int} (h : a ≤ st) : lvR a st = 0 := if_pos h
theorem lvR_hi {a st : Int} (h : st < a) : lvR a st = dvU (a - st) (2 * st) := if_neg (by omega)
/-- what levelReaching answers -/
theorem lvR_bd {a st : Int} (hs : 1 ≤ st) : 0 ≤ lvR a st ∧ (2 * lvR a st + 1) * st ≤ max st (a + 2 * st) ∧ (a ≤ st ∨ a ≤ (2 * lvR a st + 1) * st) := by
  by_cases h : a ≤ st
  · rw [lvR_lo h]
    refine ⟨by omega, by omega, Or.inl h⟩
  · rw [lvR_hi (by omega)]
    obtain ⟨h1, h2, h3⟩ := dvU_bd (a := a - st) (b := 2 * st) (by omega) (by omega)
    have h4 : (2 * dvU (a - st) (2 * st) + 1) * st = dvU (a - st) (2 * st) * (2 * st) + st := by
      rw [Int.add_mul, Int.one_mul, Int.mul_comm 2, Int.mul_assoc]
    rw [h4]
    refine ⟨h1, by omega, Or.inr (by omega)⟩
