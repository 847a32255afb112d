theorem mxK_ext {f g : Nat → Int} {h : Int64} : ∀ n : Nat, (∀ k : Nat, k < n → f k = g k) → mxK f h n = mxK g h n
  | 0, _ => rfl
  | n + 1, e => by
    show mx (mxK f h n) (f n) = mx (mxK g h n) (g n)
    rw [mxK_ext n (fun k hk => e k (by omega)), e n (by omega)]
theorem dgN_ext {F G : Nat → Nat → Int} {m : Nat} {h : Int64} : ∀ n : Nat, (∀ v k : Nat, v < n → k < m → F v k = G v k) → dgN F m h n = dgN G m h n
  | 0, _ => rfl
  | n + 1, e => by
    show mxK (F n) (dgN F m h n) m = mxK (G n) (dgN G m h n) m
    rw [dgN_ext n (fun v k hv hk => e v k (by omega) hk), mxK_ext m (fun k hk => e n k (by omega) hk)]
theorem mxK_add {f g e : Nat → Int} {h : Int64} {n : Nat} (h1 : ∀ k : Nat, k < n → f k = e k) : ∀ m : Nat, (∀ k : Nat, k < m → g k = e (n + k)) → mxK g (mxK f h n) m = mxK e h (n + m)
  | 0, _ => mxK_ext n h1
  | m + 1, h2 => by
    show mx (mxK g (mxK f h n) m) (g m) = mx (mxK e h (n + m)) (e (n + m))
    rw [mxK_add h1 m (fun k hk => h2 k (by omega)), h2 m (by omega)]
theorem dgX1_ext {pa dy er wy ck dl es : Nat → Int} {no : Int} {h : Int64} {v : Nat} (hb : ∀ w : Nat, v < w → (w : Int) < no → (xHL wy no v (w : Int) = true ↔ mBn dl no v w = true)) (hl : ∀ w q : Nat, v < w → (w : Int) < no → mBn dl no v w = true → q < 4 → xLq pa dy er wy no v w q = mLk ck dl es v w q ∧ xLq pa dy er wy no w v q = mLk ck dl es w v q) : ∀ j : Nat, v + j < no.toNat → dgX1 pa dy er wy no h v j = dgL1 ck dl es no h v j
  | 0, _ => rfl
  | j + 1, hj => by
    have ih := dgX1_ext (h := h) hb hl j (by omega)
    have hb2 := hb (v + 1 + j) (by omega) (by omega)
    rw [dgX1, dgL1, ih]
    by_cases c : mBn dl no v (v + 1 + j) = true
    · rw [if_pos (hb2.mpr c), if_pos c]
      have hl2 := fun q hq => hl (v + 1 + j) q (by omega) (by omega) c hq
      refine mxK_add (n := 4) (fun k hk => ?_) 4 (fun k hk => ?_)
      · unfold mL8; rw [if_pos hk]; exact (hl2 k hk).1
      · unfold mL8; rw [if_neg (by omega), show ((4 + k : Nat) : Int) - 4 = k by omega]; exact (hl2 k hk).2
    · rw [if_neg (fun q => c (hb2.mp q)), if_neg c]
theorem dgX_ext {pa dy er wy ck dl es : Nat → Int} {no : Int} {h : Int64} (hb : ∀ v w : Nat, v < w → (w : Int) < no → (xHL wy no v (w : Int) = true ↔ mBn dl no v w = true)) (hl : ∀ v w q : Nat, v < w → (w : Int) < no → mBn dl no v w = true → q < 4 → xLq pa dy er wy no v w q = mLk ck dl es v w q ∧ xLq pa dy er wy no w v q = mLk ck dl es w v q) : ∀ v : Nat, v ≤ no.toNat → dgX pa dy er wy no h v = dgL ck dl es no h v
  | 0, _ => rfl
  | v + 1, hv => by
    rw [dgX, dgL, dgX_ext hb hl v (by omega)]
    exact dgX1_ext (hb v) (hl v) _ (by omega)
theorem rr_digest {le no li ti gr tik grk ik sp bo nr te9 pl nd lk st bq tj tv nv ml ij kt kl : Int} {te dg nb wy pa ra fa ft dy er pak rak fak ftk dyk erk pg dl es rb ck fb fu kc kr ke kd kf kg : Nat → Int} (h : RR le te no li dg nb wy pa ra fa ft dy er ti gr pak rak fak ftk dyk erk tik grk ik sp bo nr te9 pl nd lk st bq tj tv nv ml ij kt kl pg dl es rb ck fb fu kc kr ke kd kf kg) : dgXA pa ra fa ft dy er dg nb wy te no li le ti gr sp bo nr te9 = dgA ck dl es rb fb fu pg nd lk pl tj st bq nv tv ml := by
  have hN := fun z q => rr_node h z q
  have hL := fun z w q => rr_link h z w q
  have hS := fun z => rr_skew h z
  have hQ := fun z => rr_spread h z
  have hC := fun z => rr_count h z
  obtain ⟨⟨r1, r1a, r1b⟩, r2, r3, r4, r5, r6, r7, r8, r9, r10, r11, r12, r13, r14, r15, P, rN, rM, rK⟩ := h
  subst r1 r2 r4 r6 r7 r9 r11 r12 r13
  obtain ⟨m1, m2, m3, m4, m5, m6, m7, m8, m9, m10, m11, m12, m13, m14, m15, m16, m17⟩ := id rM
  have hPe : P = mBn dl no := by funext i j; exact (m17 i j).symm
  subst hPe
  have hck5 : CKB ck 50000000 := fun k hk => by have := m9 k hk; omega
  have hck4 : CKB ck 40000000 := fun k hk => by have := m9 k hk; omega
  subst m5 m6
  have eN : dgN (xNq pa ra fa ft dy er dg nb no sp) 9 1663 no.toNat = dgN (mNq ck dl es rb fb fu no sp) 9 1663 no.toNat := dgN_ext _ (fun v k hv hk => by
    have h1 := hN v k
    rw [if_neg (show ¬ ¬ (0 ≤ (v : Int) ∧ (v : Int) ≤ no - 1) by omega), if_pos (show 0 ≤ (k : Int) ∧ (k : Int) ≤ 8 by omega)] at h1
    exact h1)
  have hb : ∀ z w : Int, (xHL wy no z w = true ↔ mB dl no z w = true) := by
    intro z w
    have hhl : (xHL wy no z w = true) ↔ (mB dl no z w = true) := by
      rw [xHL_iff, mB_iff]
      constructor
      · rintro ⟨g1, g2, g3⟩
        have hw := (rN.2.2.2.2.2.2.1.2.2.1 z.toNat w.toNat (by omega) (by omega)).mp (by rw [show z.toNat * 6 + w.toNat = (z * 6 + w).toNat by omega]; exact g3)
        have := mB_nat.mp hw
        exact ⟨by omega, by omega, by omega, by rw [show (6 * z + w).toNat = 6 * z.toNat + w.toNat by omega]; exact this.2.2.2⟩
      · rintro ⟨g1, g2, g3, g4⟩
        have hw : mBn dl no z.toNat w.toNat = true := mB_nat.mpr ⟨by omega, by omega, by omega, by rw [show 6 * z.toNat + w.toNat = (6 * z + w).toNat by omega]; exact g4⟩
        have := (rN.2.2.2.2.2.2.1.2.2.1 z.toNat w.toNat (by omega) (by omega)).mpr hw
        exact ⟨by omega, by omega, by rw [show (z * 6 + w).toNat = z.toNat * 6 + w.toNat by omega]; exact this⟩
    exact hhl
  have eX : ∀ g : Int64, dgX pa dy er wy no g no.toNat = dgL ck dl es no g no.toNat := fun g => dgX_ext (fun v w _ _ => hb v w) (fun v w q _ hw c hq => by
    have c2 : mB dl no w v = true := mB_comm m15 r5 c
    have h1 := hL v w q
    have h2 := hL w v q
    rw [if_neg (show ¬ ¬ mB dl no v w = true from fun g => g c), if_pos (show 0 ≤ (q : Int) ∧ (q : Int) ≤ 3 by omega)] at h1
    rw [if_neg (show ¬ ¬ mB dl no w v = true from fun g => g c2), if_pos (show 0 ≤ (q : Int) ∧ (q : Int) ≤ 3 by omega)] at h2
    exact ⟨h1, h2⟩) _ (Nat.le_refl _)
  have eC : ∀ g : Int64, mxK (xCq fa no li le ti sp bo nr te9) g 9 = mxK (mHq fb no li le ti sp bo nr te9) g 9 := fun g => mxK_ext 9 (fun k _ => hC k)
  unfold dgXA dgA
  by_cases c2 : 0 < no
  · have e4 : ∀ g : Int64, mxK (xSwq pa wy no sp gr) g 4 = mxK (mSnq ck dl no sp gr) g 4 := fun g => mxK_ext 4 (fun k hk => by
      have h1 := hS k
      rw [if_neg (show ¬ ¬ (0 ≤ (k : Int) ∧ (k : Int) ≤ 3) by omega), if_neg (show ¬ no = 0 by omega)] at h1
      exact h1)
    have e5 : ∀ g : Int64, mxK (xSrq pa wy no) g 5 = mxK (mSpq ck dl no) g 5 := fun g => mxK_ext 5 (fun k hk => by
      have h1 := hQ ((k + 1 : Nat) : Int)
      rw [if_neg (show ¬ ¬ (1 ≤ ((k + 1 : Nat) : Int) ∧ ((k + 1 : Nat) : Int) ≤ 5) by omega), if_neg (show ¬ no = 0 by omega)] at h1
      exact h1)
    have eS : ∀ g : Int64, dgXS pa ra fa dy er dg nb wy no sp bo gr g = dgS ck dl es rb fb no sp bo gr g := fun g => by
      unfold dgXS dgS
      rw [e4, e5, w9_eq ⟨c2, r5.2⟩ r8 r10 rN hck4 m13 m14 m11 m1 m2 m3 m12 (by omega)]
    rw [if_pos c2, if_pos c2, eN, eX, eS, eC]
  · rw [if_neg c2, if_neg c2, eN, eX, eC]
