-- the class's page in the words of texts
theorem pg_tD {te : Nat → Int} {le : Int} {j : Nat} (h : (j : Int) < le) : pgL te le j - 48 = tD te j := by
  rw [pgL_in ⟨by omega, h⟩, show ((j : Int)).toNat = j by omega]; rfl
-- the class's net: neighbours are added
def aNd (dg : Nat → Int) (i : Nat) : Nat → Int := va_up dg i (dg i + 1)
def aNn (dg nb : Nat → Int) (i j : Nat) : Nat → Int := va_up nb (i * 6 + (dg i).toNat) j
def aNw (wy : Nat → Int) (i j : Nat) : Nat → Int := va_up wy (i * 6 + j) 1
def w0 : Nat → Int := fun k => if k / 6 = k % 6 then 0 else 1000
/-- degrees, neighbours, ways behind so many links of a text -/
def jS (t : Nat → Int) (nb : Nat → Int) : Nat → (Nat → Int) × (Nat → Int) × (Nat → Int)
  | 0 => (fun _ => 0, nb, w0)
  | l + 1 => (aNd (aNd (jS t nb l).1 (tD t (2 + 4 * l)).toNat) (tD t (3 + 4 * l)).toNat, aNn (aNd (jS t nb l).1 (tD t (2 + 4 * l)).toNat) (aNn (jS t nb l).1 (jS t nb l).2.1 (tD t (2 + 4 * l)).toNat (tD t (3 + 4 * l)).toNat) (tD t (3 + 4 * l)).toNat (tD t (2 + 4 * l)).toNat, aNw (aNw (jS t nb l).2.2 (tD t (2 + 4 * l)).toNat (tD t (3 + 4 * l)).toNat) (tD t (3 + 4 * l)).toNat (tD t (2 + 4 * l)).toNat)
def aj (t : Nat → Int) (l v w : Nat) : Bool := !nwL t v w l
theorem aj_s (t : Nat → Int) (l v w : Nat) : aj t (l + 1) v w = (aj t l v w || smL t l v w) := by
  unfold aj
  rw [nwL, Bool.not_and, Bool.not_not]
theorem cnt_ext {P Q : Nat → Bool} : ∀ n : Nat, (∀ w : Nat, w < n → P w = Q w) → cnt P n = cnt Q n
  | 0, _ => rfl
  | n + 1, h => by rw [cnt, cnt, cnt_ext n (fun w hw => h w (by omega)), h n (by omega)]
theorem cnt_add {P Q : Nat → Bool} {x : Nat} : ∀ n : Nat, x < n → P x = false → (∀ w : Nat, Q w = (P w || decide (w = x))) → cnt Q n = cnt P n + 1
  | 0, h, _, _ => absurd h (Nat.not_lt_zero x)
  | n + 1, h, hp, hq => by
    rw [cnt, cnt, hq n]
    by_cases e : n = x
    · subst e
      rw [cnt_ext n (fun w hw => show Q w = P w by rw [hq w, decide_eq_false (by omega), Bool.or_false]), hp]
      simp
    · rw [cnt_add n (by omega) hp hq, decide_eq_false e, Bool.or_false]
      omega
theorem cnt_le {P : Nat → Bool} {x : Nat} : ∀ n : Nat, x < n → P x = false → cnt P n ≤ (n : Int) - 1
  | 0, h, _ => absurd h (Nat.not_lt_zero x)
  | n + 1, h, hp => by
    rw [cnt]
    by_cases e : n = x
    · subst e
      have := (cnt_bd P n).2
      rw [hp]
      simp
      omega
    · have := cnt_le n (by omega) hp
      split <;> omega
/-- what the class's net has behind l links -/
def jOK (t : Nat → Int) (l : Nat) (dg nb wy : Nat → Int) : Prop :=
  (∀ v : Nat, v < 6 → dg v = cnt (aj t l v) 6) ∧ (∀ v k : Nat, v < 6 → (k : Int) < dg v → ∃ w : Nat, w < 6 ∧ aj t l v w = true ∧ nb (v * 6 + k) = w) ∧ (∀ v w : Nat, v < 6 → w < 6 → aj t l v w = true → ∃ k : Nat, (k : Int) < dg v ∧ nb (v * 6 + k) = w) ∧ (∀ v w : Nat, v < 6 → w < 6 → wy (v * 6 + w) = if aj t l v w = true then 1 else if v = w then 0 else 1000)
theorem aj_irr {t : Nat → Int} : ∀ l : Nat, lkOK t l → ∀ v : Nat, aj t l v v = false
  | 0, _, v => rfl
  | l + 1, h, v => by
    rw [aj_s, aj_irr l (fun i hi => h i (by omega)) v, Bool.false_or]
    have := (h l (by omega)).2.2.1
    rw [smL, decide_eq_false_iff_not]
    rintro (q | q) <;> exact this (q.1.trans q.2.symm)
theorem jOK_dg {t : Nat → Int} {l : Nat} {dg nb wy : Nat → Int} (h : jOK t l dg nb wy) (hl : lkOK t l) {v : Nat} (hv : v < 6) : 0 ≤ dg v ∧ dg v ≤ 5 := by
  rw [h.1 v hv]
  have := cnt_le (P := aj t l v) 6 hv (aj_irr l hl v)
  have := (cnt_bd (aj t l v) 6).1
  omega
/-- one side of a link comes in -/
theorem jOK_half {P P' : Nat → Nat → Bool} {dg nb wy : Nat → Int} {a b : Nat} (ha : a < 6) (hb : b < 6) (hab : a ≠ b) (hnew : P a b = false) (hP' : ∀ v w : Nat, P' v w = (P v w || (decide (v = a) && decide (w = b))))
    (hlt : ∀ v : Nat, v < 6 → 0 ≤ dg v ∧ dg v ≤ 5)
    (h1 : ∀ v : Nat, v < 6 → dg v = cnt (P v) 6) (h2 : ∀ v k : Nat, v < 6 → (k : Int) < dg v → ∃ w : Nat, w < 6 ∧ P v w = true ∧ nb (v * 6 + k) = w) (h3 : ∀ v w : Nat, v < 6 → w < 6 → P v w = true → ∃ k : Nat, (k : Int) < dg v ∧ nb (v * 6 + k) = w) (h4 : ∀ v w : Nat, v < 6 → w < 6 → wy (v * 6 + w) = if P v w = true then 1 else if v = w then 0 else 1000) :
    (∀ v : Nat, v < 6 → aNd dg a v = cnt (P' v) 6) ∧ (∀ v k : Nat, v < 6 → (k : Int) < aNd dg a v → ∃ w : Nat, w < 6 ∧ P' v w = true ∧ aNn dg nb a b (v * 6 + k) = w) ∧ (∀ v w : Nat, v < 6 → w < 6 → P' v w = true → ∃ k : Nat, (k : Int) < aNd dg a v ∧ aNn dg nb a b (v * 6 + k) = w) ∧ (∀ v w : Nat, v < 6 → w < 6 → aNw wy a b (v * 6 + w) = if P' v w = true then 1 else if v = w then 0 else 1000) := by
  have hda := hlt a ha
  refine ⟨fun v hv => ?_, fun v k hv hk => ?_, fun v w hv hw hp => ?_, fun v w hv hw => ?_⟩
  · by_cases e : v = a
    · subst e
      rw [aNd, up_s, h1 v hv]
      refine (cnt_add 6 hb hnew (fun w => ?_)).symm
      rw [hP', decide_eq_true rfl, Bool.true_and]
    · rw [aNd, up_n _ _ _ e, h1 v hv]
      refine cnt_ext 6 (fun w _ => ?_)
      rw [hP', decide_eq_false e, Bool.false_and, Bool.or_false]
  · by_cases e : v = a
    · subst e
      rw [aNd, up_s] at hk
      by_cases e2 : k = (dg v).toNat
      · subst e2
        exact ⟨b, hb, by rw [hP', decide_eq_true rfl, decide_eq_true rfl]; simp, by rw [aNn, up_s]⟩
      · obtain ⟨w, g1, g2, g3⟩ := h2 v k hv (by omega)
        exact ⟨w, g1, by rw [hP', g2, Bool.true_or], by rw [aNn, up_n _ _ _ (by omega)]; exact g3⟩
    · rw [aNd, up_n _ _ _ e] at hk
      obtain ⟨w, g1, g2, g3⟩ := h2 v k hv hk
      have := hlt v hv
      exact ⟨w, g1, by rw [hP', g2, Bool.true_or], by rw [aNn, up_n _ _ _ (by omega)]; exact g3⟩
  · rw [hP', Bool.or_eq_true] at hp
    rcases hp with hp | hp
    · obtain ⟨k, g1, g2⟩ := h3 v w hv hw hp
      have := hlt v hv
      by_cases e : v = a
      · subst e
        exact ⟨k, by rw [aNd, up_s]; omega, by rw [aNn, up_n _ _ _ (by omega)]; exact g2⟩
      · exact ⟨k, by rw [aNd, up_n _ _ _ e]; exact g1, by rw [aNn, up_n _ _ _ (by omega)]; exact g2⟩
    · rw [Bool.and_eq_true, decide_eq_true_iff, decide_eq_true_iff] at hp
      obtain ⟨rfl, rfl⟩ := hp
      exact ⟨(dg v).toNat, by rw [aNd, up_s]; omega, by rw [aNn, up_s]⟩
  · by_cases e : v = a ∧ w = b
    · obtain ⟨rfl, rfl⟩ := e
      rw [aNw, up_s, hP', decide_eq_true rfl, decide_eq_true rfl]
      simp
    · rw [aNw, up_n _ _ _ (by omega), h4 v w hv hw, hP']
      have : (decide (v = a) && decide (w = b)) = false := by
        rw [Bool.and_eq_false_iff, decide_eq_false_iff_not, decide_eq_false_iff_not]
        omega
      rw [this, Bool.or_false]
theorem jOK_all {t nb : Nat → Int} (h0 : tD t 0 ≤ 6) : ∀ l : Nat, lkOK t l → jOK t l (jS t nb l).1 (jS t nb l).2.1 (jS t nb l).2.2
  | 0, _ => by
    refine ⟨fun v _ => rfl, fun v k _ hk => ?_, fun v w _ _ h => ?_, fun v w hv hw => ?_⟩
    · exfalso
      have h9 : (k : Int) < 0 := hk
      omega
    · cases h
    · show w0 (v * 6 + w) = if false = true then _ else _
      rw [if_neg (by decide), w0, show (v * 6 + w) / 6 = v by omega, show (v * 6 + w) % 6 = w by omega]
  | l + 1, hl => by
    have hl0 : lkOK t l := fun i hi => hl i (by omega)
    have ih := jOK_all (nb := nb) h0 l hl0
    obtain ⟨k2, k3, kne, k4, kn⟩ := hl l (by omega)
    obtain ⟨a, ha⟩ : ∃ a : Nat, tD t (2 + 4 * l) = a := ⟨(tD t (2 + 4 * l)).toNat, by omega⟩
    obtain ⟨b, hb⟩ : ∃ b : Nat, tD t (3 + 4 * l) = b := ⟨(tD t (3 + 4 * l)).toNat, by omega⟩
    have hab : a ≠ b := by omega
    have hjd := fun v (hv : v < 6) => jOK_dg ih hl0 hv
    obtain ⟨i1, i2, i3, i4⟩ := ih
    have hn1 : aj t l a b = false := by unfold aj; rw [← ha, ← hb, kn]; rfl
    have hsm : ∀ v w : Nat, smL t l v w = ((decide (v = a) && decide (w = b)) || (decide (v = b) && decide (w = a))) := by
      intro v w
      rw [smL, ha, hb, ← Bool.decide_and, ← Bool.decide_and, ← Bool.decide_or]
      refine decide_eq_decide.mpr ?_
      omega
    have hsy : ∀ (m : Nat) (v w : Int), nwL t v w m = nwL t w v m := by
      intro m v w
      induction m with
      | zero => rfl
      | succ m ih =>
        rw [nwL, nwL, ih]
        congr 2
        rw [smL, smL]
        exact decide_eq_decide.mpr ⟨fun q => q.elim (fun r => Or.inr ⟨r.1, r.2⟩) (fun r => Or.inl ⟨r.1, r.2⟩), fun q => q.elim (fun r => Or.inr ⟨r.1, r.2⟩) (fun r => Or.inl ⟨r.1, r.2⟩)⟩
    have hn2 : aj t l b a = false := by unfold aj; rw [hsy, ← ha, ← hb, kn]; rfl
    obtain ⟨m1, m2, m3, m4⟩ := jOK_half (P := aj t l) (P' := fun v w => aj t l v w || (decide (v = a) && decide (w = b))) (by omega) (by omega) hab hn1 (fun _ _ => rfl) hjd i1 i2 i3 i4
    have hd2 : ∀ v : Nat, v < 6 → 0 ≤ aNd (jS t nb l).1 a v ∧ aNd (jS t nb l).1 a v ≤ 5 := by
      intro v hv
      rw [m1 v hv]
      refine ⟨(cnt_bd _ 6).1, ?_⟩
      have := cnt_le (P := fun w => aj t l v w || (decide (v = a) && decide (w = b))) 6 hv (by
        show (aj t l v v || (decide (v = a) && decide (v = b))) = false
        rw [aj_irr l hl0 v, Bool.false_or, Bool.and_eq_false_iff, decide_eq_false_iff_not, decide_eq_false_iff_not]
        omega)
      exact this
    obtain ⟨n1, n2, n3, n4⟩ := jOK_half (P := fun v w => aj t l v w || (decide (v = a) && decide (w = b))) (P' := aj t (l + 1)) (a := b) (b := a) (by omega) (by omega) (fun e => hab e.symm) (by
      show (aj t l b a || (decide (b = a) && decide (a = b))) = false
      rw [hn2, Bool.false_or, Bool.and_eq_false_iff, decide_eq_false_iff_not]
      exact Or.inl (fun e => hab e.symm)) (fun v w => by rw [aj_s, hsm, Bool.or_assoc]) hd2 m1 m2 m3 m4
    rw [jS, ha, hb, show ((a : Int)).toNat = a by omega, show ((b : Int)).toNat = b by omega]
    exact ⟨n1, n2, n3, n4⟩
-- ways are shortened
def fw1 (g : Nat → Int) (o v w : Nat) : Nat → Int := va_up g (v * 6 + w) (min (g (v * 6 + w)) (g (v * 6 + o) + g (o * 6 + w)))
def fwI (g : Nat → Int) (o v : Nat) : Nat → Nat → Int
  | 0 => g
  | w + 1 => fw1 (fwI g o v w) o v w
def fwV (g : Nat → Int) (o n : Nat) : Nat → Nat → Int
  | 0 => g
  | v + 1 => fwI (fwV g o n v) o v n
def fwO (g : Nat → Int) (n : Nat) : Nat → Nat → Int
  | 0 => g
  | o + 1 => fwV (fwO g n o) o n n
def wOK (g : Nat → Int) : Prop := ∀ k : Nat, k < 36 → 0 ≤ g k ∧ g k ≤ 1000
theorem fw1_ok {g : Nat → Int} {o v w : Nat} (h : wOK g) (ho : o < 6) (hv : v < 6) (hw : w < 6) : wOK (fw1 g o v w) := by
  intro k hk
  unfold fw1
  have h1 := h (v * 6 + w) (by omega)
  have h2 := h (v * 6 + o) (by omega)
  have h3 := h (o * 6 + w) (by omega)
  by_cases e : k = v * 6 + w
  · subst e; rw [up_s]; omega
  · rw [up_n _ _ _ e]; exact h k hk
theorem fwI_ok {g : Nat → Int} {o v : Nat} (h : wOK g) (ho : o < 6) (hv : v < 6) : ∀ n : Nat, n ≤ 6 → wOK (fwI g o v n)
  | 0, _ => h
  | w + 1, hn => fw1_ok (fwI_ok h ho hv w (by omega)) ho hv (by omega)
theorem fwV_ok {g : Nat → Int} {o n : Nat} (h : wOK g) (ho : o < 6) (hn : n ≤ 6) : ∀ v : Nat, v ≤ 6 → wOK (fwV g o n v)
  | 0, _ => h
  | v + 1, hv => fwI_ok (fwV_ok h ho hn v (by omega)) ho (by omega) n hn
theorem fwO_ok {g : Nat → Int} {n : Nat} (h : wOK g) (hn : n ≤ 6) : ∀ o : Nat, o ≤ 6 → wOK (fwO g n o)
  | 0, _ => h
  | o + 1, ho => fwV_ok (fwO_ok h hn o (by omega)) (by omega) hn n hn
theorem nwL_le {t : Nat → Int} {a b : Int} {i : Nat} : ∀ {m : Nat}, nwL t a b m = true → i < m → smL t i a b = false
  | 0, _, h => absurd h (Nat.not_lt_zero i)
  | m + 1, h, hi => by
    rw [nwL, Bool.and_eq_true] at h
    by_cases e : i = m
    · subst e
      have := h.2
      simpa using this
    · exact nwL_le h.1 (by omega)
