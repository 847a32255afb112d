-- ===== the class and the reference, held against each other =====
def MR (nd : Int) (pa fa ck fb : Nat → Int) : Prop := (∀ k : Nat, k < 24 → ((k % 6 : Nat) : Int) < nd → pa k = ck (4 * (k % 6) + k / 6)) ∧ ∀ k : Nat, k < 6 → fa k = fb k
def DR (nd : Int) (dl dy er es : Nat → Int) : Prop := (∀ i j : Nat, mBn dl nd i j = true → dy (i * 6 + j) = dl (6 * i + j)) ∧ ∀ k : Nat, k < 36 → er k = es k
def NI (nd : Int) (P : Nat → Nat → Bool) (dg nb wy : Nat → Int) : Prop :=
  (∀ v : Nat, v < 6 → 0 ≤ dg v ∧ dg v ≤ 5) ∧ (∀ v k : Nat, v < 6 → (k : Int) < dg v → 0 ≤ nb (v * 6 + k) ∧ nb (v * 6 + k) < 6) ∧ wOK wy ∧ (∀ v : Nat, (v : Int) < nd → dg v = cnt (P v) nd.toNat) ∧ (∀ v k : Nat, (v : Int) < nd → (k : Int) < dg v → ∃ w : Nat, P v w = true ∧ nb (v * 6 + k) = w) ∧ (∀ v w : Nat, P v w = true → ∃ k : Nat, (k : Int) < dg v ∧ nb (v * 6 + k) = w) ∧ wInv P nd.toNat nd.toNat wy ∧ (0 < nd → ∃ v w : Nat, v < w ∧ (w : Int) < nd ∧ P v w = true) ∧ (∀ v w : Nat, P v w = true → P w v = true)
def CKB (ck : Nat → Int) (B : Int) : Prop := ∀ k : Nat, k < 24 → 0 ≤ ck k ∧ ck k ≤ B
def DLB (dl : Nat → Int) : Prop := ∀ k : Nat, k < 36 → dl k = -100000001 ∨ (0 ≤ dl k ∧ dl k ≤ 3)
def ERB (er : Nat → Int) : Prop := ∀ k : Nat, k < 36 → -9 ≤ er k ∧ er k ≤ 9
def F01 (fa : Nat → Int) : Prop := ∀ k : Nat, k < 6 → fa k = 0 ∨ fa k = 1
section EQ1
variable {nd st bo : Int} {pa ra fa ft dy er dg nb wy ck rb fb fu dl es : Nat → Int}
theorem mBn_lt (hnd : 0 ≤ nd ∧ nd ≤ 6) {i j : Nat} (h : mBn dl nd i j = true) : (i : Int) < nd ∧ (j : Int) < nd ∧ i < 6 ∧ j < 6 ∧ i ≠ j := by
  have := mB_nat.mp h
  omega
theorem pa_ck (hM : MR nd pa fa ck fb) (hnd : 0 ≤ nd ∧ nd ≤ 6) {w a : Nat} (hw : (w : Int) < nd) (ha : a < 4) : pa (a * 6 + w) = ck (4 * w + a) := by
  rw [hM.1 (a * 6 + w) (by omega) (by omega), show (a * 6 + w) % 6 = w by omega, show (a * 6 + w) / 6 = a by omega]
theorem pa_ck0 (hM : MR nd pa fa ck fb) (hnd : 0 ≤ nd ∧ nd ≤ 6) {w : Nat} (hw : (w : Int) < nd) : pa w = ck (4 * w) := by
  have := pa_ck hM hnd hw (a := 0) (by omega)
  rw [show 0 * 6 + w = w by omega, show 4 * w + 0 = 4 * w by omega] at this
  exact this
theorem xG_mG (hnd : 0 ≤ nd ∧ nd ≤ 6) (hdl : DLB dl) (hM : MR nd pa fa ck fb) (hD : DR nd dl dy er es) {v w : Nat} (hb : mBn dl nd v w = true) : xG pa dy er v w = mG ck dl es v w := by
  obtain ⟨h1, h2, h3, h4, h5⟩ := mBn_lt hnd hb
  obtain ⟨g1, g2, g3, g4⟩ := mB_dl hdl hnd hb
  unfold xG mG
  rw [hD.1 v w hb, hD.2 (v * 6 + w) (by omega), show v * 6 + w = 6 * v + w by omega, pa_ck hM hnd h2 (by omega)]
theorem xDf_mD (hnd : 0 ≤ nd ∧ nd ≤ 6) (hdl : DLB dl) (hM : MR nd pa fa ck fb) (hD : DR nd dl dy er es) {v w : Nat} (hb : mBn dl nd v w = true) : xDf pa dy er v w = mD ck dl es 1 v w ∧ -(xDf pa dy er v w) = mD ck dl es 0 v w := by
  have h := xG_mG hnd hdl hM hD hb
  have h2 := pa_ck0 hM hnd (mBn_lt hnd hb).1
  unfold xDf mD
  rw [if_neg (by decide), if_pos rfl, h, h2]
  exact ⟨rfl, rfl⟩
theorem mOf_ge {a : Int} {v : Nat} (hck : CKB ck 50000000) (hes : ERB es) (hdl : DLB dl) (hnd : 0 ≤ nd ∧ nd ≤ 6) : ∀ (n w : Nat), w < n → mBn dl nd v w = true → mD ck dl es a v w ≤ mOf ck dl es nd a v n
  | 0, w, h, _ => absurd h (Nat.not_lt_zero w)
  | n + 1, w, h, hb => by
    have hr := mOf_rng (a := a) (v := v) hck hes hdl hnd n
    have hst : mOf ck dl es nd a v n ≤ mOf ck dl es nd a v (n + 1) := by
      by_cases hbn : mB dl nd v n = true
      · by_cases q : mOf ck dl es nd a v n = -100000001 ∨ mOf ck dl es nd a v n < mD ck dl es a v n
        · rw [mOf_up hbn q]
          obtain ⟨g1, g2, g3⟩ := mB_dl hdl hnd hbn
          have := mD_rng (a := a) hck hes g1 g2 g3
          omega
        · rw [mOf_st hbn (by omega) (by omega)]
          exact Int.le_refl _
      · rw [mOf_no hbn]
        exact Int.le_refl _
    by_cases e : w = n
    · subst e
      by_cases q : mOf ck dl es nd a v w = -100000001 ∨ mOf ck dl es nd a v w < mD ck dl es a v w
      · rw [mOf_up hb q]
        exact Int.le_refl _
      · rw [mOf_st hb (by omega) (by omega)]
        omega
    · exact Int.le_trans (mOf_ge hck hes hdl hnd n w (by omega) hb) hst
theorem mOf_at {a : Int} {v : Nat} : ∀ n : Nat, mOf ck dl es nd a v n = -100000001 ∨ ∃ w : Nat, w < n ∧ mBn dl nd v w = true ∧ mD ck dl es a v w = mOf ck dl es nd a v n
  | 0 => Or.inl rfl
  | n + 1 => by
    have ih := mOf_at (a := a) (v := v) n
    by_cases hb : mB dl nd v n = true
    · by_cases q : mOf ck dl es nd a v n = -100000001 ∨ mOf ck dl es nd a v n < mD ck dl es a v n
      · rw [mOf_up hb q]
        exact Or.inr ⟨n, by omega, hb, rfl⟩
      · rw [mOf_st hb (by omega) (by omega)]
        rcases ih with h | ⟨w, h1, h2, h3⟩
        · exact Or.inl h
        · exact Or.inr ⟨w, by omega, h2, h3⟩
    · rw [mOf_no hb]
      rcases ih with h | ⟨w, h1, h2, h3⟩
      · exact Or.inl h
      · exact Or.inr ⟨w, by omega, h2, h3⟩
theorem xA_ge {v : Nat} : ∀ (n k : Nat), k < n → xDf pa dy er v (nb (v * 6 + k)).toNat ≤ xA pa dy er nb v n ∧ -(xDf pa dy er v (nb (v * 6 + k)).toNat) ≤ xB pa dy er nb v n
  | 0, k, h => absurd h (Nat.not_lt_zero k)
  | n + 1, k, h => by
    rw [xA, xB]
    by_cases e : k = n
    · subst e; omega
    · have := xA_ge (v := v) n k (by omega)
      omega
theorem xA_at {v : Nat} : ∀ n : Nat, (xA pa dy er nb v n = -100000001 ∨ ∃ k : Nat, k < n ∧ xDf pa dy er v (nb (v * 6 + k)).toNat = xA pa dy er nb v n) ∧ (xB pa dy er nb v n = -100000001 ∨ ∃ k : Nat, k < n ∧ -(xDf pa dy er v (nb (v * 6 + k)).toNat) = xB pa dy er nb v n)
  | 0 => ⟨Or.inl rfl, Or.inl rfl⟩
  | n + 1 => by
    obtain ⟨h1, h2⟩ := xA_at (v := v) n
    rw [xA, xB]
    refine ⟨?_, ?_⟩
    · by_cases e : xA pa dy er nb v n ≤ xDf pa dy er v (nb (v * 6 + n)).toNat
      · exact Or.inr ⟨n, by omega, by omega⟩
      · rw [show max (xA pa dy er nb v n) (xDf pa dy er v (nb (v * 6 + n)).toNat) = xA pa dy er nb v n by omega]
        rcases h1 with h | ⟨k, g1, g2⟩
        · exact Or.inl h
        · exact Or.inr ⟨k, by omega, g2⟩
    · by_cases e : xB pa dy er nb v n ≤ -(xDf pa dy er v (nb (v * 6 + n)).toNat)
      · exact Or.inr ⟨n, by omega, by omega⟩
      · rw [show max (xB pa dy er nb v n) (-(xDf pa dy er v (nb (v * 6 + n)).toNat)) = xB pa dy er nb v n by omega]
        rcases h2 with h | ⟨k, g1, g2⟩
        · exact Or.inl h
        · exact Or.inr ⟨k, by omega, g2⟩
theorem xA_no {v : Nat} : ∀ n : Nat, -100000001 ≤ xA pa dy er nb v n ∧ -100000001 ≤ xB pa dy er nb v n
  | 0 => ⟨Int.le_refl _, Int.le_refl _⟩
  | n + 1 => by
    have := xA_no (v := v) n
    rw [xA, xB]
    omega
/-- AHEAD and BEHIND are the same -/
theorem ah_eq (hnd : 0 ≤ nd ∧ nd ≤ 6) (hN : NI nd (mBn dl nd) dg nb wy) (hck : CKB ck 50000000) (hes : ERB es) (hdl : DLB dl) (hM : MR nd pa fa ck fb) (hD : DR nd dl dy er es) {v : Nat} (hv : (v : Int) < nd) : xAh pa dy er dg nb v = mOf ck dl es nd 1 v nd.toNat ∧ xBe pa dy er dg nb v = mOf ck dl es nd 0 v nd.toNat := by
  obtain ⟨n1, n2, n3, n4, n5, n6, -⟩ := hN
  have hd := n1 v (by omega)
  have hlow := xA_no (pa := pa) (dy := dy) (er := er) (nb := nb) (v := v) (dg v).toNat
  have hat := xA_at (pa := pa) (dy := dy) (er := er) (nb := nb) (v := v) (dg v).toNat
  have r1 := mOf_rng (a := 1) (v := v) hck hes hdl hnd nd.toNat
  have r0 := mOf_rng (a := 0) (v := v) hck hes hdl hnd nd.toNat
  unfold xAh xBe
  refine ⟨Int.le_antisymm ?_ ?_, Int.le_antisymm ?_ ?_⟩
  · rcases hat.1 with h | ⟨k, h1, h2⟩
    · omega
    · obtain ⟨w, g1, g2⟩ := n5 v k hv (by omega)
      rw [← h2, g2, show ((w : Int)).toNat = w by omega, (xDf_mD hnd hdl hM hD g1).1]
      exact mOf_ge hck hes hdl hnd _ w (by have := mBn_lt hnd g1; omega) g1
  · rcases mOf_at (ck := ck) (dl := dl) (es := es) (nd := nd) (a := 1) (v := v) nd.toNat with h | ⟨w, h1, h2, h3⟩
    · omega
    · obtain ⟨k, g1, g2⟩ := n6 v w h2
      have := (xA_ge (pa := pa) (dy := dy) (er := er) (nb := nb) (v := v) (dg v).toNat k (by omega)).1
      rw [g2, show ((w : Int)).toNat = w by omega, (xDf_mD hnd hdl hM hD h2).1, h3] at this
      exact this
  · rcases hat.2 with h | ⟨k, h1, h2⟩
    · omega
    · obtain ⟨w, g1, g2⟩ := n5 v k hv (by omega)
      rw [← h2, g2, show ((w : Int)).toNat = w by omega, (xDf_mD hnd hdl hM hD g1).2]
      exact mOf_ge hck hes hdl hnd _ w (by have := mBn_lt hnd g1; omega) g1
  · rcases mOf_at (ck := ck) (dl := dl) (es := es) (nd := nd) (a := 0) (v := v) nd.toNat with h | ⟨w, h1, h2, h3⟩
    · omega
    · obtain ⟨k, g1, g2⟩ := n6 v w h2
      have := (xA_ge (pa := pa) (dy := dy) (er := er) (nb := nb) (v := v) (dg v).toNat k (by omega)).2
      rw [g2, show ((w : Int)).toNat = w by omega, (xDf_mD hnd hdl hM hD h2).2, h3] at this
      exact this
/-- who has no AHEAD has no BEHIND -/
theorem mOf_both (hnd : 0 ≤ nd ∧ nd ≤ 6) (hck : CKB ck 50000000) (hes : ERB es) (hdl : DLB dl) {v : Nat} : mOf ck dl es nd 1 v nd.toNat = -100000001 ↔ mOf ck dl es nd 0 v nd.toNat = -100000001 := by
  have key : ∀ a b : Int, mOf ck dl es nd a v nd.toNat = -100000001 → mOf ck dl es nd b v nd.toNat = -100000001 := by
    intro a b h
    rcases mOf_at (ck := ck) (dl := dl) (es := es) (nd := nd) (a := b) (v := v) nd.toNat with q | ⟨w, h1, h2, h3⟩
    · exact q
    · exfalso
      have := mOf_ge (a := a) hck hes hdl hnd nd.toNat w h1 h2
      obtain ⟨g1, g2, g3⟩ := mB_dl hdl hnd h2
      have := mD_rng (a := a) hck hes g1 g2 g3
      omega
  exact ⟨key 1 0, key 0 1⟩
end EQ1
-- levels
theorem odd_one {p q a st : Int} (hs : 1 ≤ st) (hp : a ≤ p * st) (hq : a ≤ q * st) (lp : p = 1 ∨ (p - 2) * st < a) (lq : q = 1 ∨ (q - 2) * st < a) (hp1 : p % 2 = 1) (hq1 : q % 2 = 1) (p1 : 1 ≤ p) (q1 : 1 ≤ q) : p = q := by
  rcases Int.lt_trichotomy p q with h | h | h
  · rcases lq with e | e
    · omega
    · have := Int.mul_le_mul_of_nonneg_right (show p ≤ q - 2 by omega) (show (0 : Int) ≤ st by omega)
      omega
  · exact h
  · rcases lp with e | e
    · omega
    · have := Int.mul_le_mul_of_nonneg_right (show q ≤ p - 2 by omega) (show (0 : Int) ≤ st by omega)
      omega
theorem even_one {p q a st : Int} (hs : 1 ≤ st) (hp : a ≤ p * st) (hq : a ≤ q * st) (lp : p = 2 ∨ (p - 2) * st < a) (lq : q = 2 ∨ (q - 2) * st < a) (hp1 : p % 2 = 0) (hq1 : q % 2 = 0) (p1 : 2 ≤ p) (q1 : 2 ≤ q) : p = q := by
  rcases Int.lt_trichotomy p q with h | h | h
  · rcases lq with e | e
    · omega
    · have := Int.mul_le_mul_of_nonneg_right (show p ≤ q - 2 by omega) (show (0 : Int) ≤ st by omega)
      omega
  · exact h
  · rcases lp with e | e
    · omega
    · have := Int.mul_le_mul_of_nonneg_right (show q ≤ p - 2 by omega) (show (0 : Int) ≤ st by omega)
      omega
theorem mFi_ch {st a f : Int} (hs : 1 ≤ st ∧ st ≤ 500) (hf : f = 1 ∨ f = 2) (ha : a ≤ 1000000000) : a ≤ mFi st a f * st ∧ (mFi st a f = f ∨ (mFi st a f - 2) * st < a) ∧ mFi st a f % 2 = f % 2 ∧ f ≤ mFi st a f := by
  obtain ⟨h1, h2, h3, h4, h5⟩ := mN_bd hs hf ha
  have hfs : f * st = st ∨ f * st = 2 * st := by rcases hf with h | h <;> rw [h] <;> omega
  by_cases hc : a ≤ f * st
  · have hn : mN st a f = f := by unfold mN; rw [if_pos hc]
    have hm : mFi st a f = f := by unfold mFi; rw [hn, if_pos rfl]
    rw [hm]
    exact ⟨hc, Or.inl rfl, rfl, Int.le_refl _⟩
  · have hn : mN st a f = (a + st - 1) / st := by unfold mN; rw [if_neg hc]
    have hb : (mN st a f - 1) * st < a := by
      rw [hn]
      have e1 := Int.emod_def (a + st - 1) st
      have e2 := Int.emod_nonneg (a + st - 1) (b := st) (by omega)
      rw [Int.mul_comm] at e1
      rw [Int.sub_mul, Int.one_mul]
      omega
    have hb2 : (mN st a f - 2) * st < a := by
      have : (mN st a f - 2) * st = (mN st a f - 1) * st - st := by rw [Int.sub_mul, Int.sub_mul]; omega
      omega
    unfold mFi
    split
    · rename_i e
      exact ⟨by omega, Or.inr hb2, e, h5⟩
    · rename_i e
      refine ⟨?_, Or.inr ?_, by omega, by omega⟩
      · rw [Int.add_mul, Int.one_mul]; omega
      · rw [show mN st a f + 1 - 2 = mN st a f - 1 by omega]; exact hb
theorem lvR_mFi {st a : Int} (hs : 1 ≤ st ∧ st ≤ 500) (ha : a ≤ 1000000000) : mFi st a 1 = 2 * lvR a st + 1 := by
  obtain ⟨h1, h2, h3, h4⟩ := mFi_ch hs (Or.inl rfl) ha
  obtain ⟨g1, g2, g3⟩ := lvR_bd (a := a) (st := st) hs.1
  refine odd_one hs.1 h1 ?_ h2 ?_ (by omega) (by omega) h4 (by omega)
  · rcases g3 with q | q
    · have : lvR a st = 0 := lvR_lo q
      rw [this]; omega
    · exact q
  · by_cases q : a ≤ st
    · left; rw [lvR_lo q]; omega
    · right
      rw [lvR_hi (by omega)]
      obtain ⟨k1, k2, k3⟩ := dvU_bd (a := a - st) (b := 2 * st) (by omega) (by omega)
      have h4 : (2 * dvU (a - st) (2 * st) + 1 - 2) * st = dvU (a - st) (2 * st) * (2 * st) - st := by
        rw [show 2 * dvU (a - st) (2 * st) + 1 - 2 = 2 * dvU (a - st) (2 * st) - 1 by omega, Int.sub_mul, Int.one_mul, Int.mul_comm 2, Int.mul_assoc]
      rw [h4]
      omega
theorem dnL_mFi {st a : Int} (hs : 1 ≤ st ∧ st ≤ 500) (ha : a ≤ 1000000000) : mFi st a 2 = 2 * dnL a st := by
  obtain ⟨h1, h2, h3, h4⟩ := mFi_ch hs (Or.inr rfl) ha
  unfold dnL
  by_cases q : a ≤ 2 * st
  · rw [if_pos q]
    exact even_one hs.1 h1 (by omega) h2 (Or.inl (by omega)) (by omega) (by omega) h4 (by omega)
  · rw [if_neg q]
    obtain ⟨k1, k2, k3⟩ := dvU_bd (a := a) (b := 2 * st) (by omega) (by omega)
    have e4 : 2 * dvU a (2 * st) * st = dvU a (2 * st) * (2 * st) := by rw [Int.mul_comm 2 (dvU a (2 * st)), Int.mul_assoc]
    have k5 : 1 ≤ dvU a (2 * st) := by
      rcases Int.lt_or_le (dvU a (2 * st)) 1 with z | z
      · have : dvU a (2 * st) = 0 := by omega
        rw [this] at k3; omega
      · exact z
    refine even_one hs.1 h1 (by omega) h2 (Or.inr ?_) (by omega) (by omega) h4 (by omega)
    rw [Int.sub_mul, e4]
    omega
theorem up_eq {st ah be : Int} (hs : 1 ≤ st ∧ st ≤ 500) (h1 : ah = -100000001 ↔ be = -100000001) (ha : -100000001 ≤ ah ∧ ah ≤ 60000000) (hb : -100000001 ≤ be ∧ be ≤ 60000000) : xUp ah be st = mUp st ah be := by
  have hl := lvR_le (be := be) hs (by omega)
  unfold xUp mUp mTr
  rw [lvR_mFi hs (by omega)]
  by_cases e : be = -100000001
  · rw [if_pos e, if_pos rfl, if_neg (by have := h1.mpr e; omega)]
  · rw [if_neg e]
    by_cases q : (2 * lvR be st + 1) * st ≤ ah
    · rw [if_pos q, if_pos q, if_neg (by omega)]; omega
    · rw [if_neg q, if_neg q, if_pos rfl]
theorem dn_eq {st ah be : Int} (hs : 1 ≤ st ∧ st ≤ 500) (h1 : ah = -100000001 ↔ be = -100000001) (ha : -100000001 ≤ ah ∧ ah ≤ 60000000) (hb : -100000001 ≤ be ∧ be ≤ 60000000) : xDn ah be st = mDn st ah be := by
  have hl := dnL_bd (ah := ah) hs (by omega)
  unfold xDn mDn mTr
  rw [dnL_mFi hs (by omega)]
  by_cases e : ah = -100000001
  · rw [if_pos e, if_pos rfl, if_neg (by have := h1.mp e; omega)]
  · rw [if_neg e]
    by_cases q : 2 * dnL ah st * st ≤ be
    · rw [if_pos q, if_pos q, if_neg (by omega)]; omega
    · rw [if_neg q, if_neg q, if_pos rfl]
