-- shortened ways: what a round over one node does
def fM (g : Nat → Int) (o v w : Nat) : Int := min (g (v * 6 + w)) (g (v * 6 + o) + g (o * 6 + w))
theorem fM_col {g : Nat → Int} {o v : Nat} (h : g (o * 6 + o) = 0) : fM g o v o = g (v * 6 + o) := by unfold fM; omega
theorem fM_row {g : Nat → Int} {o w : Nat} (h : g (o * 6 + o) = 0) : fM g o o w = g (o * 6 + w) := by unfold fM; omega
theorem fwI_at {g h : Nat → Int} {o v : Nat} (ho : o < 6) (hv : v < 6) (h0 : g (o * 6 + o) = 0) (hA : ∀ y : Nat, y < 6 → h (v * 6 + y) = g (v * 6 + y)) (hB : ∀ y : Nat, y < 6 → h (o * 6 + y) = g (o * 6 + y)) : ∀ w' : Nat, w' ≤ 6 → ∀ x y : Nat, x < 6 → y < 6 → fwI h o v w' (x * 6 + y) = if x = v ∧ y < w' then fM g o v y else h (x * 6 + y)
  | 0, _, x, y, _, _ => by rw [fwI, if_neg (by omega)]
  | w' + 1, hw, x, y, hx, hy => by
    have ih := fwI_at ho hv h0 hA hB w' (by omega)
    rw [fwI, fw1]
    have e1 : fwI h o v w' (v * 6 + w') = g (v * 6 + w') := by rw [ih v w' hv (by omega), if_neg (by omega), hA w' (by omega)]
    have e2 : fwI h o v w' (v * 6 + o) = g (v * 6 + o) := by
      rw [ih v o hv ho]
      split
      · exact fM_col h0
      · exact hA o ho
    have e3 : fwI h o v w' (o * 6 + w') = g (o * 6 + w') := by rw [ih o w' ho (by omega), if_neg (by omega), hB w' (by omega)]
    rw [e1, e2, e3]
    by_cases e : x * 6 + y = v * 6 + w'
    · have hxv : x = v := by omega
      have hyw : y = w' := by omega
      subst hxv; subst hyw
      rw [up_s, if_pos (by omega)]
      rfl
    · rw [up_n _ _ _ e, ih x y hx hy]
      by_cases h1 : x = v ∧ y < w'
      · rw [if_pos h1, if_pos (by omega)]
      · rw [if_neg h1, if_neg (by omega)]
theorem fwV_at {g : Nat → Int} {o n : Nat} (ho : o < 6) (hn : n ≤ 6) (h0 : g (o * 6 + o) = 0) : ∀ v' : Nat, v' ≤ 6 → ∀ x y : Nat, x < 6 → y < 6 → fwV g o n v' (x * 6 + y) = if x < v' ∧ y < n then fM g o x y else g (x * 6 + y)
  | 0, _, x, y, _, _ => by rw [fwV, if_neg (by omega)]
  | v' + 1, hv, x, y, hx, hy => by
    have ih := fwV_at (n := n) ho hn h0 v' (by omega)
    rw [fwV, fwI_at (g := g) ho (by omega) h0 (fun y hy => by rw [ih v' y (by omega) hy, if_neg (by omega)]) (fun y hy => by
      rw [ih o y ho hy]
      split
      · exact fM_row h0
      · rfl) n hn x y hx hy]
    by_cases h1 : x = v' ∧ y < n
    · rw [if_pos h1, if_pos (by omega), h1.1]
    · rw [if_neg h1, ih x y hx hy]
      by_cases h2 : x < v' ∧ y < n
      · rw [if_pos h2, if_pos (by omega)]
      · rw [if_neg h2, if_neg (by omega)]
-- walks
def Wk (P : Nat → Nat → Bool) (n : Nat) : Nat → Nat → Nat → Prop
  | 0, v, w => v = w
  | d + 1, v, w => ∃ i : Nat, i < n ∧ Wk P n d v i ∧ P i w = true
theorem Wk_cat {P : Nat → Nat → Bool} {n a : Nat} {v o : Nat} (h1 : Wk P n a v o) : ∀ (b w : Nat), Wk P n b o w → Wk P n (a + b) v w
  | 0, w, h => by cases h; exact h1
  | b + 1, w, h => by
    obtain ⟨i, g1, g2, g3⟩ := h
    exact ⟨i, g1, Wk_cat h1 b i g2, g3⟩
/-- what the ways are behind rounds over the first o nodes -/
def wInv (P : Nat → Nat → Bool) (n o : Nat) (g : Nat → Int) : Prop :=
  (∀ v : Nat, v < n → g (v * 6 + v) = 0) ∧ (∀ v w : Nat, v < n → w < n → v ≠ w → 1 ≤ g (v * 6 + w)) ∧ (∀ v w : Nat, v < n → w < n → (g (v * 6 + w) = 1 ↔ P v w = true)) ∧ (∀ v w : Nat, v < n → w < n → g (v * 6 + w) < 1000 → Wk P n (g (v * 6 + w)).toNat v w) ∧ (∀ k v w : Nat, k < o → k < n → v < n → w < n → g (v * 6 + w) ≤ g (v * 6 + k) + g (k * 6 + w))
theorem wInv_0 {P : Nat → Nat → Bool} {n : Nat} {g : Nat → Int} (hn : n ≤ 6) (hirr : ∀ v : Nat, P v v = false) (hg : ∀ v w : Nat, v < 6 → w < 6 → g (v * 6 + w) = if P v w = true then 1 else if v = w then 0 else 1000) : wInv P n 0 g := by
  refine ⟨fun v hv => ?_, fun v w hv hw hne => ?_, fun v w hv hw => ?_, fun v w hv hw hlt => ?_, fun k v w hk => absurd hk (Nat.not_lt_zero k)⟩
  · rw [hg v v (by omega) (by omega), hirr v]; simp
  · rw [hg v w (by omega) (by omega)]
    split
    · omega
    · first | omega | (rw [if_neg hne]; omega)
  · rw [hg v w (by omega) (by omega)]
    by_cases h : P v w = true
    · rw [if_pos h]; simp [h]
    · rw [if_neg h]
      constructor
      · intro q; exfalso; split at q <;> omega
      · intro q; exact absurd q h
  · have e := hg v w (by omega) (by omega)
    by_cases h : P v w = true
    · rw [e, if_pos h]
      exact ⟨v, hv, rfl, h⟩
    · rw [if_neg h] at e
      by_cases h2 : v = w
      · rw [e, if_pos h2]; exact h2
      · rw [if_neg h2] at e; omega
theorem wInv_s {P : Nat → Nat → Bool} {n o : Nat} {g : Nat → Int} (hn : n ≤ 6) (ho : o < n) (hok : wOK g) (h : wInv P n o g) : wInv P n (o + 1) (fwV g o n n) := by
  obtain ⟨i0, i1, i2, i3, i4⟩ := h
  have at' : ∀ v w : Nat, v < n → w < n → fwV g o n n (v * 6 + w) = fM g o v w := fun v w hv hw => by rw [fwV_at (by omega) hn (i0 o ho) n hn v w (by omega) (by omega), if_pos ⟨hv, hw⟩]
  have pos : ∀ v w : Nat, v < n → w < n → 0 ≤ g (v * 6 + w) := fun v w hv hw => (hok _ (by omega)).1
  refine ⟨fun v hv => ?_, fun v w hv hw hne => ?_, fun v w hv hw => ?_, fun v w hv hw hlt => ?_, fun k v w hk hkn hv hw => ?_⟩
  · rw [at' v v hv hv, fM, i0 v hv]
    have := pos v o hv ho
    have := pos o v ho hv
    omega
  · rw [at' v w hv hw, fM]
    have := i1 v w hv hw hne
    by_cases e : v = o
    · subst e
      have := i0 v hv
      omega
    · have := i1 v o hv ho e
      have := pos o w ho hw
      omega
  · rw [at' v w hv hw, ← i2 v w hv hw, fM]
    by_cases e : v = o
    · subst e
      have := i0 v hv
      omega
    · by_cases e2 : o = w
      · subst e2
        have := i0 o ho
        omega
      · have := i1 v o hv ho e
        have := i1 o w ho hw e2
        by_cases e3 : v = w
        · subst e3
          have := i0 v hv
          omega
        · have := i1 v w hv hw e3
          omega
  · rw [at' v w hv hw] at hlt ⊢
    unfold fM at hlt ⊢
    by_cases e : g (v * 6 + w) ≤ g (v * 6 + o) + g (o * 6 + w)
    · rw [show min (g (v * 6 + w)) (g (v * 6 + o) + g (o * 6 + w)) = g (v * 6 + w) by omega] at hlt ⊢
      exact i3 v w hv hw hlt
    · have p1 := pos v o hv ho
      have p2 := pos o w ho hw
      have w1 := i3 v o hv ho (by omega)
      have w2 := i3 o w ho hw (by omega)
      have := Wk_cat w1 _ _ w2
      rw [show (min (g (v * 6 + w)) (g (v * 6 + o) + g (o * 6 + w))).toNat = (g (v * 6 + o)).toNat + (g (o * 6 + w)).toNat by omega]
      exact this
  · rw [at' v w hv hw, at' v k hv hkn, at' k w hkn hw]
    unfold fM
    have p1 := pos o k ho hkn
    have p2 := pos k o hkn ho
    by_cases e : k = o
    · subst e
      have := i0 k ho
      have := pos v k hv ho
      have := pos k w ho hw
      omega
    · have t1 := i4 k v w (by omega) hkn hv hw
      have t2 := i4 k o w (by omega) hkn ho hw
      have t3 := i4 k v o (by omega) hkn hv ho
      omega
theorem wInv_all {P : Nat → Nat → Bool} {n : Nat} {g : Nat → Int} (hn : n ≤ 6) (hok : wOK g) (h : wInv P n 0 g) : ∀ o : Nat, o ≤ n → wInv P n o (fwO g n o)
  | 0, _ => h
  | o + 1, ho => wInv_s hn (by omega) (fwO_ok hok hn o (by omega)) (wInv_all hn hok h o (by omega))
theorem Wk_le {P : Nat → Nat → Bool} {n : Nat} {g : Nat → Int} (h : wInv P n n g) {v : Nat} (hv : v < n) : ∀ (d w : Nat), w < n → Wk P n d v w → g (v * 6 + w) ≤ d
  | 0, w, hw, q => by cases q; rw [h.1 v hv]; omega
  | d + 1, w, hw, q => by
    obtain ⟨i, g1, g2, g3⟩ := q
    have ih := Wk_le h hv d i g1 g2
    have := h.2.2.2.2 i v w g1 g1 hv hw
    have := (h.2.2.1 i w g1 hw).mpr g3
    omega
-- the reference's way: sets of those that were met
theorem mRe_bit {nbr : Nat → Nat → Bool} {mt : Nat} (j : Nat) : ∀ k : Nat, (mRe nbr mt k).testBit j = true ↔ (mt.testBit j = true ∨ ∃ i : Nat, i < k ∧ mt.testBit (i / 6) = true ∧ nbr (i / 6) (i % 6) = true ∧ j = i % 6)
  | 0 => ⟨fun h => Or.inl h, fun h => h.elim id (fun ⟨i, h1, _⟩ => absurd h1 (Nat.not_lt_zero i))⟩
  | k + 1 => by
    have ih := mRe_bit (nbr := nbr) (mt := mt) j k
    rw [mRe]
    split
    · rename_i hc
      rw [Nat.testBit_or, Bool.or_eq_true, ih, Nat.testBit_two_pow, decide_eq_true_iff]
      constructor
      · rintro ((h | ⟨i, h1, h2, h3, h4⟩) | h)
        · exact Or.inl h
        · exact Or.inr ⟨i, by omega, h2, h3, h4⟩
        · exact Or.inr ⟨k, by omega, hc.1, hc.2, h.symm⟩
      · rintro (h | ⟨i, h1, h2, h3, h4⟩)
        · exact Or.inl (Or.inl h)
        · by_cases e : i = k
          · subst e; exact Or.inr h4.symm
          · exact Or.inl (Or.inr ⟨i, by omega, h2, h3, h4⟩)
    · rename_i hc
      rw [ih]
      constructor
      · rintro (h | ⟨i, h1, h2, h3, h4⟩)
        · exact Or.inl h
        · exact Or.inr ⟨i, by omega, h2, h3, h4⟩
      · rintro (h | ⟨i, h1, h2, h3, h4⟩)
        · exact Or.inl h
        · by_cases e : i = k
          · subst e; exact absurd ⟨h2, h3⟩ hc
          · exact Or.inr ⟨i, by omega, h2, h3, h4⟩
theorem mRe_36 {nbr : Nat → Nat → Bool} {n mt : Nat} (hn : n ≤ 6) (hnb : ∀ i j : Nat, nbr i j = true → i < n ∧ j < n) (j : Nat) : (mRe nbr mt 36).testBit j = true ↔ (mt.testBit j = true ∨ ∃ i : Nat, i < n ∧ mt.testBit i = true ∧ nbr i j = true) := by
  rw [mRe_bit]
  constructor
  · rintro (h | ⟨i, h1, h2, h3, h4⟩)
    · exact Or.inl h
    · exact Or.inr ⟨i / 6, (hnb _ _ h3).1, h2, by rw [h4]; exact h3⟩
  · rintro (h | ⟨i, h1, h2, h3⟩)
    · exact Or.inl h
    · have := hnb i j h3
      exact Or.inr ⟨6 * i + j, by omega, by rw [show (6 * i + j) / 6 = i by omega]; exact h2, by rw [show (6 * i + j) / 6 = i by omega, show (6 * i + j) % 6 = j by omega]; exact h3, by omega⟩
/-- the set behind so many steps -/
def mtS (nbr : Nat → Nat → Bool) (v : Nat) : Nat → Nat
  | 0 => 2 ^ v
  | h + 1 => mRe nbr (mtS nbr v h) 36
theorem mtS_in {P : Nat → Nat → Bool} {n : Nat} {g : Nat → Int} (hn : n ≤ 6) (hnb : ∀ i j : Nat, P i j = true → i < n ∧ j < n) (hI : wInv P n n g) {v : Nat} (hv : v < n) : ∀ h : Nat, h < 999 → ∀ w : Nat, w < n → ((mtS P v h).testBit w = true ↔ g (v * 6 + w) ≤ h)
  | 0, _, w, hw => by
    rw [mtS, Nat.testBit_two_pow, decide_eq_true_iff]
    constructor
    · intro q; subst q; rw [hI.1 v hv]; omega
    · intro q
      by_cases e : v = w
      · exact e
      · have := hI.2.1 v w hv hw e
        omega
  | h + 1, hh, w, hw => by
    have ih := mtS_in hn hnb hI hv h (by omega)
    rw [mtS, mRe_36 hn hnb]
    constructor
    · rintro (q | ⟨i, h1, h2, h3⟩)
      · have := (ih w hw).mp q
        omega
      · have t1 := (ih i h1).mp h2
        have t2 := hI.2.2.2.2 i v w h1 h1 hv hw
        have t3 := (hI.2.2.1 i w h1 hw).mpr h3
        omega
    · intro q
      by_cases e : g (v * 6 + w) ≤ h
      · exact Or.inl ((ih w hw).mpr e)
      · have e2 : g (v * 6 + w) = (h : Int) + 1 := by omega
        have wk := hI.2.2.2.1 v w hv hw (by omega)
        rw [e2, show ((h : Int) + 1).toNat = h + 1 by omega] at wk
        obtain ⟨i, h1, h2, h3⟩ := wk
        exact Or.inr ⟨i, h1, (ih i h1).mpr (Wk_le hI hv h i h1 h2), h3⟩
theorem mtS_lt {nbr : Nat → Nat → Bool} {v : Nat} (hv : v < 6) : ∀ h : Nat, mtS nbr v h < 64
  | 0 => p6_lt hv
  | h + 1 => mRe_lt _ (mtS_lt hv h) 36
theorem mtS_st {nbr : Nat → Nat → Bool} {v h : Nat} (e : mRe nbr (mtS nbr v h) 36 = mtS nbr v h) : ∀ k : Nat, mtS nbr v (h + k) = mtS nbr v h
  | 0 => rfl
  | k + 1 => by
    show mRe nbr (mtS nbr v (h + k)) 36 = _
    rw [mtS_st e k, e]
theorem mHo_way {P : Nat → Nat → Bool} {n : Nat} {g : Nat → Int} (hn : n ≤ 6) (hnb : ∀ i j : Nat, P i j = true → i < n ∧ j < n) (hI : wInv P n n g) {v w : Nat} (hv : v < n) (hw : w < n) : ∀ fl h : Nat, 64 ≤ fl + mtS P v h → h ≤ mtS P v h → (∀ h' : Nat, h' < h → ¬ g (v * 6 + w) ≤ h') → mHo P w fl (mtS P v h) h = if g (v * 6 + w) < 1000 then g (v * 6 + w) else -100000001
  | 0, h, hf, hh, _ => by have := mtS_lt (nbr := P) (v := v) (by omega) h; omega
  | fl + 1, h, hf, hh, hl => by
    have hlt := mtS_lt (nbr := P) (v := v) (by omega) h
    have hin := mtS_in hn hnb hI hv h (by omega) w hw
    have hp : 0 ≤ g (v * 6 + w) := by
      by_cases e : v = w
      · subst e; rw [hI.1 v hv]; omega
      · have := hI.2.1 v w hv hw e; omega
    rw [mHo]
    by_cases h1 : (mtS P v h).testBit w = true
    · rw [if_pos h1]
      have e1 := hin.mp h1
      have e2 : g (v * 6 + w) = h := by
        rcases Nat.eq_zero_or_pos h with q | q
        · omega
        · have := hl (h - 1) (by omega)
          omega
      rw [e2, if_pos (by omega)]
    · rw [if_neg h1]
      have hgt : ¬ g (v * 6 + w) ≤ h := fun q => h1 (hin.mpr q)
      by_cases h2 : mRe P (mtS P v h) 36 = mtS P v h
      · rw [if_pos h2, if_neg]
        intro q
        by_cases q9 : g (v * 6 + w) < 999
        · have := (mtS_in hn hnb hI hv (g (v * 6 + w)).toNat (by omega) w hw).mpr (by omega)
          rw [show (g (v * 6 + w)).toNat = h + ((g (v * 6 + w)).toNat - h) by omega, mtS_st h2] at this
          exact h1 this
        · have wk := hI.2.2.2.1 v w hv hw q
          rw [show (g (v * 6 + w)).toNat = 998 + 1 by omega] at wk
          obtain ⟨i, g1, g2, g3⟩ := wk
          have t1 := (mtS_in hn hnb hI hv 998 (by omega) i g1).mpr (Wk_le hI hv 998 i g1 g2)
          rw [show 998 = h + (998 - h) by omega, mtS_st h2] at t1
          have t2 : (mRe P (mtS P v h) 36).testBit w = true := (mRe_36 hn hnb w).mpr (Or.inr ⟨i, g1, t1, g3⟩)
          rw [h2] at t2
          exact h1 t2
      · rw [if_neg h2]
        have hge := mRe_ge P (mtS P v h) 36
        exact mHo_way hn hnb hI hv hw fl (h + 1) (by show 64 ≤ fl + mRe P (mtS P v h) 36; omega) (by show h + 1 ≤ mRe P (mtS P v h) 36; omega) (fun h' hh' => by
          by_cases e : h' = h
          · subst e; exact hgt
          · exact hl h' (by omega))
/-- ways of the class and of the reference are the same -/
theorem xHo_mHs {dl wy : Nat → Int} {nd : Int} (hnd : 0 ≤ nd ∧ nd ≤ 6) (hI : wInv (mBn dl nd) nd.toNat nd.toNat wy) {v w : Nat} (hv : (v : Int) < nd) (hw : (w : Int) < nd) : xHo wy v w = mHs dl nd v w := by
  have hnb : ∀ i j : Nat, mBn dl nd i j = true → i < nd.toNat ∧ j < nd.toNat := fun i j h => by have := mB_nat.mp h; omega
  have := mHo_way (by omega) hnb hI (v := v) (w := w) (by omega) (by omega) 64 0 (Nat.le_add_right _ _) (Nat.zero_le _) (fun h' q => absurd q (Nat.not_lt_zero h'))
  exact this.symm
