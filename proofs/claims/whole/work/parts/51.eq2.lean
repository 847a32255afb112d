section EQ2
variable {nd st bo : Int} {pa ra fa ft dy er dg nb wy ck rb fb fu dl es : Nat → Int}
theorem nf_eq (hnd : 0 ≤ nd ∧ nd ≤ 6) (hst : 1 ≤ st ∧ st ≤ 500) (hN : NI nd (mBn dl nd) dg nb wy) (hck : CKB ck 50000000) (hes : ERB es) (hdl : DLB dl) (hf : F01 fb) (hM : MR nd pa fa ck fb) (hD : DR nd dl dy er es) {v : Nat} (hv : (v : Int) < nd) : xNF pa fa dy er dg nb st v = mFa (mTu ck dl es nd st) fb v := by
  obtain ⟨e1, e2⟩ := ah_eq hnd hN hck hes hdl hM hD hv
  have r1 := mOf_rng (a := 1) (v := v) hck hes hdl hnd nd.toNat
  have r0 := mOf_rng (a := 0) (v := v) hck hes hdl hnd nd.toNat
  have hb := mOf_both (v := v) hnd hck hes hdl
  have hfv := hf v (by omega)
  have hfe := hM.2 v (by omega)
  unfold xNF mFa mTu
  rw [e1, e2, up_eq hst hb (by omega) (by omega), dn_eq hst hb (by omega) (by omega)]
  by_cases h1 : mUp st (mOf ck dl es nd 1 v nd.toNat) (mOf ck dl es nd 0 v nd.toNat) ≠ -100000001
  · rw [if_pos h1, if_pos h1, if_pos (Or.inl rfl)]
  · rw [if_neg h1, if_neg h1]
    by_cases h2 : mDn st (mOf ck dl es nd 1 v nd.toNat) (mOf ck dl es nd 0 v nd.toNat) ≠ -100000001
    · rw [if_pos h2, if_pos h2, if_neg (by omega)]
    · rw [if_neg h2, if_neg h2, hfe]
      by_cases h3 : fb v = 1
      · rw [if_pos (Or.inr ⟨rfl, h3⟩), h3]
      · rw [if_neg (by omega)]; omega
theorem fa_eq9 (hnd : 0 ≤ nd ∧ nd ≤ 6) (hst : 1 ≤ st ∧ st ≤ 500) (hN : NI nd (mBn dl nd) dg nb wy) (hck : CKB ck 50000000) (hes : ERB es) (hdl : DLB dl) (hf : F01 fb) (hM : MR nd pa fa ck fb) (hD : DR nd dl dy er es) : ∀ k : Nat, k < 6 → xFa pa fa dy er dg nb nd st k = tFa ck dl es fb nd st k := by
  intro k hk
  unfold xFa tFa
  by_cases h : k < nd.toNat
  · rw [if_pos h, if_pos h, nf_eq hnd hst hN hck hes hdl hf hM hD (by omega)]
  · rw [if_neg h, if_neg h, hM.2 k hk]
theorem mv_eq (hnd : 0 ≤ nd ∧ nd ≤ 6) (hst : 1 ≤ st ∧ st ≤ 500) (hN : NI nd (mBn dl nd) dg nb wy) (hck : CKB ck 50000000) (hes : ERB es) (hdl : DLB dl) (hf : F01 fb) (hM : MR nd pa fa ck fb) (hD : DR nd dl dy er es) (hr : ∀ k : Nat, k < 6 → ra k = rb k) : MR nd (xPa pa ra fa dy er dg nb nd st bo) (xFa pa fa dy er dg nb nd st) (tCk ck dl es fb rb nd st bo) (tFa ck dl es fb nd st) := by
  have hF := fa_eq9 hnd hst hN hck hes hdl hf hM hD
  refine ⟨fun k hk hn => ?_, hF⟩
  unfold xPa
  by_cases h6 : k < 6
  · rw [if_pos h6, if_pos (by omega), pa_ck0 hM hnd (by omega), hr k h6, hF k h6, show 4 * (k % 6) + k / 6 = 4 * k by omega]
    unfold tCk
    rw [if_pos (by omega), mCk, if_pos (by omega), show 4 * k / 4 = k by omega]
    unfold tFa
    rw [if_pos (by omega)]
  · rw [if_neg h6, hM.1 (k - 6) (by omega) (by omega)]
    unfold tCk
    rw [if_pos (by omega), mCk, if_neg (by omega)]
    congr 1
    omega
theorem it_rel {B : Int} (hnd : 0 ≤ nd ∧ nd ≤ 6) (hst : 1 ≤ st ∧ st ≤ 500) (hbo : 1 ≤ bo ∧ bo ≤ 60) (hN : NI nd (mBn dl nd) dg nb wy) (hck : CKB ck B) (hes : ERB es) (hdl : DLB dl) (hf : F01 fb) (hM : MR nd pa fa ck fb) (hD : DR nd dl dy er es) (hr : ∀ k : Nat, k < 6 → ra k = rb k) (hrb : ∀ k : Nat, k < 6 → 0 ≤ rb k ∧ rb k ≤ 110) : ∀ i : Nat, B + 170 * i ≤ 50000000 → MR nd (xIS dy er dg nb ra nd st bo pa fa i).1 (xIS dy er dg nb ra nd st bo pa fa i).2 (itS dl es rb nd st bo ck fb i).1 (itS dl es rb nd st bo ck fb i).2
  | 0, _ => hM
  | i + 1, hB => by
    have ih := it_rel hnd hst hbo hN hck hes hdl hf hM hD hr hrb i (by omega)
    have hb := itS_bd (dl := dl) (er := es) (nd := nd) (st := st) hck hf hrb hbo i
    exact mv_eq hnd hst hN (fun k hk => by have := hb.1 k hk; omega) hes hdl hb.2 ih hD hr
theorem ft_rel {B : Int} (hnd : 0 ≤ nd ∧ nd ≤ 6) (hst : 1 ≤ st ∧ st ≤ 500) (hbo : 1 ≤ bo ∧ bo ≤ 60) (hN : NI nd (mBn dl nd) dg nb wy) (hck : CKB ck B) (hes : ERB es) (hdl : DLB dl) (hf : F01 fb) (hM : MR nd pa fa ck fb) (hD : DR nd dl dy er es) (hr : ∀ k : Nat, k < 6 → ra k = rb k) (hrb : ∀ k : Nat, k < 6 → 0 ≤ rb k ∧ rb k ≤ 110) (hft : ∀ k : Nat, k < 6 → ft k = fu k) : ∀ i : Nat, B + 170 * i ≤ 50000000 → ∀ k : Nat, k < 6 → xIT dy er dg nb ra nd st bo pa fa ft i k = itT dl es rb nd st bo ck fb fu i k
  | 0, _ => hft
  | i + 1, hB => by
    have ih := ft_rel hnd hst hbo hN hck hes hdl hf hM hD hr hrb hft i (by omega)
    have hm := it_rel hnd hst hbo hN hck hes hdl hf hM hD hr hrb i (by omega)
    have hb := itS_bd (dl := dl) (er := es) (nd := nd) (st := st) hck hf hrb hbo i
    have hF := fa_eq9 hnd hst hN (fun k hk => by have := hb.1 k hk; omega) hes hdl hb.2 hm hD
    intro k hk
    rw [xIT, itT, xFt, tFt, ih k hk, hF k hk]
    unfold tFa
    by_cases h : k < nd.toNat
    · rw [if_pos h, if_pos h, if_pos h]
    · rw [if_neg h, if_neg h]
theorem sk_eq (hnd : 0 ≤ nd ∧ nd ≤ 6) (hM : MR nd pa fa ck fb) {i j : Nat} (hi : (i : Int) < nd) (hj : (j : Int) < nd) : xSk pa i j = mSk ck i j := by
  unfold xSk mSk
  rw [pa_ck0 hM hnd hi, pa_ck0 hM hnd hj]
end EQ2
theorem mSk_comm (ck : Nat → Int) (i j : Nat) : mSk ck i j = mSk ck j i := aD_comm _ _
section EQ3
variable {P Q : Nat → Nat → Bool} {f g : Nat → Nat → Int} {a b : Int} {n : Nat}
theorem dfx_up : ∀ (m v w : Nat), v < m → v < w → w < n → P v w = true → f v w ≤ dfx P f a n m
  | 0, v, _, h, _, _, _ => absurd h (Nat.not_lt_zero v)
  | m + 1, v, w, h, h1, h2, hp => by
    rw [dfx]
    by_cases e : v = m
    · subst e
      have := fmx_up (P := shP P v) (f := shF f v) (a := dfx P f a n v) (n - (v + 1)) (w - (v + 1)) (by omega) (by
        show P v (v + 1 + (w - (v + 1))) = true
        rw [show v + 1 + (w - (v + 1)) = w by omega]; exact hp)
      have e2 : shF f v (w - (v + 1)) = f v w := by show f v (v + 1 + (w - (v + 1))) = _; rw [show v + 1 + (w - (v + 1)) = w by omega]
      rw [e2] at this
      exact this
    · exact Int.le_trans (dfx_up m v w (by omega) h1 h2 hp) (fmx_ge _ _ _ _)
theorem dfx_in : ∀ m : Nat, dfx P f a n m = a ∨ ∃ v w : Nat, v < w ∧ w < n ∧ P v w = true ∧ f v w = dfx P f a n m
  | 0 => Or.inl rfl
  | m + 1 => by
    rw [dfx]
    rcases fmx_in (P := shP P m) (f := shF f m) (a := dfx P f a n m) (n - (m + 1)) with q | ⟨w, h1, h2, h3⟩
    · rcases dfx_in m with q2 | ⟨v, w, g1, g2, g3, g4⟩
      · exact Or.inl (q.trans q2)
      · exact Or.inr ⟨v, w, g1, g2, g3, g4.trans q.symm⟩
    · exact Or.inr ⟨m, m + 1 + w, by omega, by omega, h2, h3⟩
theorem dd_le (hP : ∀ v w : Nat, v < w → w < n → P v w = true → Q w v = true ∧ f v w ≤ g w v) (hab : a ≤ b ∨ ∃ v w : Nat, w < v ∧ v < n ∧ Q v w = true ∧ a ≤ g v w) : dfx P f a n n ≤ dfm Q g b n := by
  rcases dfx_in (P := P) (f := f) (a := a) (n := n) n with q | ⟨v, w, h1, h2, h3, h4⟩
  · rw [q]
    rcases hab with h | ⟨v, w, g1, g2, g3, g4⟩
    · exact Int.le_trans h (dfm_ge _ _ _ _)
    · exact Int.le_trans g4 (dfm_up n v w g2 g1 g3)
  · rw [← h4]
    obtain ⟨g1, g2⟩ := hP v w h1 h2 h3
    exact Int.le_trans g2 (dfm_up n w v h2 h1 g1)
theorem dd_ge (hP : ∀ v w : Nat, v < w → w < n → Q w v = true → P v w = true ∧ g w v ≤ f v w) (hab : b ≤ a ∨ ∃ v w : Nat, v < w ∧ w < n ∧ P v w = true ∧ b ≤ f v w) : dfm Q g b n ≤ dfx P f a n n := by
  rcases dfm_in (P := Q) (f := g) (a := b) n with q | ⟨v, w, h1, h2, h3, h4⟩
  · rw [q]
    rcases hab with h | ⟨v, w, g1, g2, g3, g4⟩
    · exact Int.le_trans h (dfx_ge _ _ _ _ _)
    · exact Int.le_trans g4 (dfx_up n v w (by omega) g1 g2 g3)
  · rw [← h4]
    obtain ⟨g1, g2⟩ := hP w v h2 h1 h3
    exact Int.le_trans g2 (dfx_up n w v (by omega) h2 h1 g1)
theorem Wk_rev (hs : ∀ v w : Nat, P v w = true → P w v = true) : ∀ (d v w : Nat), v < n → w < n → Wk P n d v w → Wk P n d w v
  | 0, v, w, _, _, h => Eq.symm h
  | d + 1, v, w, hv, hw, h => by
    obtain ⟨i, g1, g2, g3⟩ := h
    have ih := Wk_rev hs d v i hv g1 g2
    have h1 : Wk P n 1 w i := ⟨w, hw, rfl, hs i w g3⟩
    have := Wk_cat h1 d v ih
    rwa [Nat.add_comm] at this
theorem wy_sym {y : Nat → Int} (hn : n ≤ 6) (hs : ∀ v w : Nat, P v w = true → P w v = true) (hok : wOK y) (hI : wInv P n n y) {v w : Nat} (hv : v < n) (hw : w < n) : y (v * 6 + w) = y (w * 6 + v) := by
  have key : ∀ v w : Nat, v < n → w < n → y (v * 6 + w) ≤ y (w * 6 + v) := by
    intro v w hv hw
    have b1 := hok (v * 6 + w) (by omega)
    have b2 := hok (w * 6 + v) (by omega)
    by_cases h : y (w * 6 + v) < 1000
    · have := Wk_le hI hv _ w hw (Wk_rev hs _ w v hw hv (hI.2.2.2.1 w v hw hv h))
      omega
    · omega
  exact Int.le_antisymm (key v w hv hw) (key w v hw hv)
end EQ3
section EQ4
variable {nd st bo : Int} {pa ra fa ft dy er dg nb wy ck rb fb fu dl es : Nat → Int}
theorem sp_eq {z : Int} (hnd : 0 ≤ nd ∧ nd ≤ 6) (hN : NI nd (mBn dl nd) dg nb wy) (hM : MR nd pa fa ck fb) : xSp pa wy nd z = mSp ck dl nd z := by
  obtain ⟨-, -, n3, -, -, -, n7, -, n9⟩ := hN
  have hh : ∀ v w : Nat, v < w → w < nd.toNat → xHo wy v w = mHs dl nd w v := fun v w h1 h2 => by
    rw [← xHo_mHs hnd n7 (by omega) (by omega)]
    unfold xHo
    rw [wy_sym (by omega) n9 n3 n7 (show v < nd.toNat by omega) (show w < nd.toNat by omega)]
  have hs : ∀ v w : Nat, v < w → w < nd.toNat → xSk pa v w = mSk ck w v := fun v w h1 h2 => by rw [sk_eq hnd hM (by omega) (by omega), mSk_comm]
  unfold xSp mSp
  refine Int.le_antisymm (dd_le (fun v w h1 h2 h3 => ⟨?_, by rw [hs v w h1 h2]; exact Int.le_refl _⟩) (Or.inl (Int.le_refl _))) (dd_ge (fun v w h1 h2 h3 => ⟨?_, by rw [hs v w h1 h2]; exact Int.le_refl _⟩) (Or.inl (Int.le_refl _)))
  · rw [xHp, hh v w h1 h2] at h3; exact h3
  · rw [xHp, hh v w h1 h2]; exact h3
theorem gl_eq (hnd : 0 ≤ nd ∧ nd ≤ 6) (hM : MR nd pa fa ck fb) : xGl pa nd = mGl ck nd := by
  have hs : ∀ v w : Nat, v < w → w < nd.toNat → xSk pa v w = mSk ck w v := fun v w h1 h2 => by rw [sk_eq hnd hM (by omega) (by omega), mSk_comm]
  unfold xGl mGl
  exact Int.le_antisymm (dd_le (fun v w h1 h2 h3 => ⟨rfl, by rw [hs v w h1 h2]; exact Int.le_refl _⟩) (Or.inl (Int.le_refl _))) (dd_ge (fun v w h1 h2 h3 => ⟨rfl, by rw [hs v w h1 h2]; exact Int.le_refl _⟩) (Or.inl (Int.le_refl _)))
theorem lo_eq (hnd : 0 < nd ∧ nd ≤ 6) (hN : NI nd (mBn dl nd) dg nb wy) (hck : CKB ck 50000000) (hM : MR nd pa fa ck fb) : xSp pa wy nd 1 = mLo ck dl nd := by
  obtain ⟨-, -, n3, -, -, -, n7, n8, n9⟩ := hN
  have hs : ∀ v w : Nat, v < w → w < nd.toNat → xSk pa v w = mSk ck w v := fun v w h1 h2 => by rw [sk_eq (by omega) hM (by omega) (by omega), mSk_comm]
  have hh : ∀ v w : Nat, v < w → w < nd.toNat → (xHp wy 1 v w = true ↔ mBn dl nd v w = true) := fun v w h1 h2 => by
    rw [← n7.2.2.1 v w (by omega) (by omega), xHp, decide_eq_true_iff, xHo]
    constructor
    · intro q; split at q <;> omega
    · intro q; rw [q]; rfl
  obtain ⟨v0, w0', k1, k2, k3⟩ := n8 hnd.1
  have hsk := (mSk_rng hck (show w0' < 6 by omega) (show v0 < 6 by omega)).1
  unfold xSp mLo
  refine Int.le_antisymm (dd_le (fun v w h1 h2 h3 => ⟨n9 _ _ ((hh v w h1 h2).mp h3), by rw [hs v w h1 h2]; exact Int.le_refl _⟩) (Or.inl (by omega))) (dd_ge (fun v w h1 h2 h3 => ⟨(hh v w h1 h2).mpr (n9 _ _ h3), by rw [hs v w h1 h2]; exact Int.le_refl _⟩) (Or.inr ⟨v0, w0', k1, by omega, (hh v0 w0' k1 (by omega)).mpr k3, by rw [hs v0 w0' k1 (by omega)]; exact hsk⟩))
theorem wl_eq (hnd : 0 < nd ∧ nd ≤ 6) (hst : 1 ≤ st ∧ st ≤ 500) (hbo : 1 ≤ bo ∧ bo ≤ 60) (hN : NI nd (mBn dl nd) dg nb wy) (hck : CKB ck 40000000) (hes : ERB es) (hdl : DLB dl) (hf : F01 fb) (hM : MR nd pa fa ck fb) (hD : DR nd dl dy er es) (hr : ∀ k : Nat, k < 6 → ra k = rb k) (hrb : ∀ k : Nat, k < 6 → 0 ≤ rb k ∧ rb k ≤ 110) {n : Nat} (hn : n ≤ 12) (b : Nat) : xWl dy er dg nb ra wy nd st bo pa fa n b = mWl dl es rb nd st bo ck fb n b ∧ 0 ≤ mWl dl es rb nd st bo ck fb n b := by
  have hr2 : ∀ k : Nat, k < 6 → rW ra nd b k = rW rb nd b k := fun k hk => by unfold rW; rw [hr k hk]
  have hm := it_rel (by omega) hst hbo hN hck hes hdl hf hM hD hr2 (rW_bd hrb) n (by omega)
  have hb := itS_bd (dl := dl) (er := es) (nd := nd) (st := st) hck hf (rW_bd (nd := nd) (b := b) hrb) hbo n
  have hc : CKB (itS dl es (rW rb nd b) nd st bo ck fb n).1 50000000 := fun k hk => by have := hb.1 k hk; omega
  exact ⟨lo_eq hnd hN hc hm, (mLo_rng hc (by omega)).1⟩
theorem wo_eq (hnd : 0 < nd ∧ nd ≤ 6) (hst : 1 ≤ st ∧ st ≤ 500) (hbo : 1 ≤ bo ∧ bo ≤ 60) (hN : NI nd (mBn dl nd) dg nb wy) (hck : CKB ck 40000000) (hes : ERB es) (hdl : DLB dl) (hf : F01 fb) (hM : MR nd pa fa ck fb) (hD : DR nd dl dy er es) (hr : ∀ k : Nat, k < 6 → ra k = rb k) (hrb : ∀ k : Nat, k < 6 → 0 ≤ rb k ∧ rb k ≤ 110) {n : Nat} (hn : n ≤ 12) : ∀ b : Nat, xWo dy er dg nb ra wy nd st bo pa fa n (b + 1) = mWo dl es rb nd st bo ck fb n (b + 1) ∧ 0 ≤ (mWo dl es rb nd st bo ck fb n (b + 1)).1
  | 0 => by
    have h := wl_eq hnd hst hbo hN hck hes hdl hf hM hD hr hrb hn 0
    rw [xWo, mWo, if_pos (show (mWo dl es rb nd st bo ck fb n 0).1 = -100000001 ∨ (mWo dl es rb nd st bo ck fb n 0).1 < mWl dl es rb nd st bo ck fb n 0 from Or.inl rfl), if_pos (show (xWo dy er dg nb ra wy nd st bo pa fa n 0).1 < xWl dy er dg nb ra wy nd st bo pa fa n 0 by show (-1 : Int) < _; omega), h.1]
    exact ⟨rfl, h.2⟩
  | b + 1 => by
    obtain ⟨i1, i2⟩ := wo_eq hnd hst hbo hN hck hes hdl hf hM hD hr hrb hn b
    have h := wl_eq hnd hst hbo hN hck hes hdl hf hM hD hr hrb hn (b + 1)
    rw [xWo, mWo, i1, h.1]
    by_cases q : (mWo dl es rb nd st bo ck fb n (b + 1)).1 < mWl dl es rb nd st bo ck fb n (b + 1)
    · rw [if_pos q, if_pos (Or.inr q)]; exact ⟨rfl, h.2⟩
    · rw [if_neg q, if_neg (by omega)]; exact ⟨rfl, i2⟩
theorem w9_eq (hnd : 0 < nd ∧ nd ≤ 6) (hst : 1 ≤ st ∧ st ≤ 500) (hbo : 1 ≤ bo ∧ bo ≤ 60) (hN : NI nd (mBn dl nd) dg nb wy) (hck : CKB ck 40000000) (hes : ERB es) (hdl : DLB dl) (hf : F01 fb) (hM : MR nd pa fa ck fb) (hD : DR nd dl dy er es) (hr : ∀ k : Nat, k < 6 → ra k = rb k) (hrb : ∀ k : Nat, k < 6 → 0 ≤ rb k ∧ rb k ≤ 110) {n : Nat} (hn : n ≤ 12) : xW9 dy er dg nb ra wy nd st bo pa fa n = mW dl es rb nd st bo ck fb n := by
  have hp : 0 < 2 ^ nd.toNat := Nat.pow_pos (by omega)
  unfold xW9 mW
  rw [show 2 ^ nd.toNat = (2 ^ nd.toNat - 1) + 1 by omega]
  exact (wo_eq hnd hst hbo hN hck hes hdl hf hM hD hr hrb hn _).1
theorem im_eq {B ml : Int} (hnd : 0 < nd ∧ nd ≤ 6) (hst : 1 ≤ st ∧ st ≤ 500) (hbo : 1 ≤ bo ∧ bo ≤ 60) (hN : NI nd (mBn dl nd) dg nb wy) (hck : CKB ck B) (hes : ERB es) (hdl : DLB dl) (hf : F01 fb) (hM : MR nd pa fa ck fb) (hD : DR nd dl dy er es) (hr : ∀ k : Nat, k < 6 → ra k = rb k) (hrb : ∀ k : Nat, k < 6 → 0 ≤ rb k ∧ rb k ≤ 110) : ∀ i : Nat, B + 170 * i ≤ 50000000 → xIM dy er dg nb ra wy nd st bo pa fa ml i = itM dl es rb nd st bo ck fb ml i
  | 0, _ => rfl
  | i + 1, hB => by
    have hm := it_rel (by omega) hst hbo hN hck hes hdl hf hM hD hr hrb (i + 1) hB
    have hb := itS_bd (dl := dl) (er := es) (nd := nd) (st := st) hck hf hrb hbo (i + 1)
    rw [xIM, itM, im_eq hnd hst hbo hN hck hes hdl hf hM hD hr hrb i (by omega), lo_eq hnd hN (fun k hk => by have := hb.1 k hk; omega) hm]
    split <;> omega
end EQ4
