/-- what the contracts of the class and of the reference ask -/
theorem rr_all {le no li ti gr tik grk ik sp bo nr te9 pl nd lk st bq tj tv nv ml ij kt kl : Int} {te dg nb wy pa ra fa ft dy er pak rak fak ftk dyk erk pg dl es rb ck fb fu kc kr ke kd kf kg : Nat → Int} (h : RR le te no li dg nb wy pa ra fa ft dy er ti gr pak rak fak ftk dyk erk tik grk ik sp bo nr te9 pl nd lk st bq tj tv nv ml ij kt kl pg dl es rb ck fb fu kc kr ke kd kf kg) : (0 ≤ le ∧ le ≤ 61) ∧ (∀ k : Nat, k < 61 → 0 ≤ te k ∧ te k ≤ 126) ∧ (0 ≤ no ∧ no ≤ 6) ∧ (∀ k : Nat, k < 36 → 0 ≤ wy k ∧ wy k ≤ 1000) ∧ (∀ v : Nat, v < 6 → 0 ≤ dg v ∧ dg v ≤ 5) ∧ (∀ v k : Nat, v < 6 → (k : Int) < dg v → 0 ≤ nb (v * 6 + k) ∧ nb (v * 6 + k) < 6) ∧ (∀ k : Nat, k < 24 → 0 ≤ pa k ∧ pa k ≤ 50000000) ∧ (∀ k : Nat, k < 24 → 0 ≤ pa k ∧ pa k ≤ 40000000) ∧ (∀ k : Nat, k < 36 → 0 ≤ dy k ∧ dy k ≤ 3) ∧ (∀ k : Nat, k < 36 → -9 ≤ er k ∧ er k ≤ 9) ∧ (∀ k : Nat, k < 6 → fa k = 0 ∨ fa k = 1) ∧ (∀ k : Nat, k < 6 → 0 ≤ ra k ∧ ra k ≤ 110) ∧ (1 ≤ sp ∧ sp ≤ 500) ∧ (1 ≤ bo ∧ bo ≤ 60) ∧ (0 ≤ ti ∧ ti ≤ 9000) ∧ (0 ≤ gr ∧ gr ≤ 50000000) ∧ (0 < no → ∃ v w : Nat, v < w ∧ (w : Int) < no ∧ wy (v * 6 + w) = 1) ∧ (ik = 0 ∨ ik = 1) := by
  obtain ⟨⟨r1, r1a, r1b⟩, r2, r3, r4, r5, r6, r7, r8, r9, r10, r11, r12, r13, r14, r15, P, rN, rM, rK⟩ := h
  subst r1 r2 r4 r6 r7 r9 r11 r12 r13
  obtain ⟨m1, m2, m3, m4, m5, m6, m7, m8, m9, m10, m11, m12, m13, m14, m15, m16, m17⟩ := id rM
  have hPe : P = mBn dl no := by funext i j; exact (m17 i j).symm
  subst hPe
  have hck5 : CKB ck 50000000 := fun k hk => by have := m9 k hk; omega
  have hck4 : CKB ck 40000000 := fun k hk => by have := m9 k hk; omega
  obtain ⟨n1, n2, n3, n4, n5, n6, n7, n8, n9⟩ := rN
  exact ⟨⟨r1a, r1b⟩, r3, r5, n3, n1, n2, fun k hk => by have := m10 k hk; omega, fun k hk => by have := m10 k hk; omega, m16, fun k hk => by rw [m2.2 k hk]; exact m13 k hk, fun k hk => by rw [m1.2 k hk]; exact m11 k hk, fun k hk => by rw [m3 k hk]; exact m12 k hk, r8, r10, by omega, by omega, fun q => by obtain ⟨v, w, k1, k2, k3⟩ := n8 q; exact ⟨v, w, k1, k2, (n7.2.2.1 v w (by omega) (by omega)).mpr k3⟩, r14⟩
theorem rr_mod {le no li ti gr tik grk ik sp bo nr te9 pl nd lk st bq tj tv nv ml ij kt kl : Int} {te dg nb wy pa ra fa ft dy er pak rak fak ftk dyk erk pg dl es rb ck fb fu kc kr ke kd kf kg : Nat → Int} (h : RR le te no li dg nb wy pa ra fa ft dy er ti gr pak rak fak ftk dyk erk tik grk ik sp bo nr te9 pl nd lk st bq tj tv nv ml ij kt kl pg dl es rb ck fb fu kc kr ke kd kf kg) : (0 ≤ pl ∧ pl ≤ 61) ∧ (∀ k : Nat, k < 61 → 0 ≤ pg k ∧ pg k ≤ 126) ∧ (0 ≤ nd ∧ nd ≤ 6) ∧ (∀ k : Nat, k < 36 → dl k = -100000001 ∨ (0 ≤ dl k ∧ dl k ≤ 3)) ∧ (∀ k : Nat, k < 24 → 0 ≤ ck k ∧ ck k ≤ 50000000) ∧ (∀ k : Nat, k < 24 → 0 ≤ ck k ∧ ck k ≤ 40000000) ∧ (∀ k : Nat, k < 36 → -9 ≤ es k ∧ es k ≤ 9) ∧ (1 ≤ st ∧ st ≤ 500) ∧ (∀ k : Nat, k < 6 → fb k = 0 ∨ fb k = 1) ∧ (∀ k : Nat, k < 6 → 0 ≤ rb k ∧ rb k ≤ 110) ∧ (1 ≤ bq ∧ bq ≤ 60) ∧ (0 ≤ tj ∧ tj ≤ 9000) ∧ (0 ≤ ml ∧ ml ≤ 50000000) ∧ (∀ i j : Nat, i < 6 → j < 6 → dl (6 * i + j) = dl (6 * j + i)) ∧ (ij = 0 ∨ ij = 1) ∧ (∀ k : Nat, k < 6 → kf k = 0 ∨ kf k = 1) := by
  obtain ⟨⟨r1, r1a, r1b⟩, r2, r3, r4, r5, r6, r7, r8, r9, r10, r11, r12, r13, r14, r15, P, rN, rM, rK⟩ := h
  subst r1 r2 r4 r6 r7 r9 r11 r12 r13
  obtain ⟨m1, m2, m3, m4, m5, m6, m7, m8, m9, m10, m11, m12, m13, m14, m15, m16, m17⟩ := id rM
  have hPe : P = mBn dl no := by funext i j; exact (m17 i j).symm
  subst hPe
  have hck5 : CKB ck 50000000 := fun k hk => by have := m9 k hk; omega
  have hck4 : CKB ck 40000000 := fun k hk => by have := m9 k hk; omega
  exact ⟨⟨r1a, r1b⟩, r3, r5, m14, hck5, hck4, m13, r8, m11, m12, r10, m7, m8, m15, r14, r15⟩
theorem rr_letter {le no li ti gr tik grk ik sp bo nr te9 pl nd lk st bq tj tv nv ml ij kt kl : Int} {te dg nb wy pa ra fa ft dy er pak rak fak ftk dyk erk pg dl es rb ck fb fu kc kr ke kd kf kg : Nat → Int} (h : RR le te no li dg nb wy pa ra fa ft dy er ti gr pak rak fak ftk dyk erk tik grk ik sp bo nr te9 pl nd lk st bq tj tv nv ml ij kt kl pg dl es rb ck fb fu kc kr ke kd kf kg) (z : Int) {le2 pl2 : Int} {te2 pg2 : Nat → Int} (e1 : le2 = (if ((32 ≤ z ∧ z ≤ 126) ∧ ¬ 61 ≤ le) then le + 1 else le)) (e2 : te2 = (if ((32 ≤ z ∧ z ≤ 126) ∧ ¬ 61 ≤ le) then va_up te le.toNat z else te)) (e3 : pl2 = (if ((32 ≤ z ∧ z ≤ 126) ∧ pl ≠ 61) then pl + 1 else pl)) (e4 : pg2 = (if ((32 ≤ z ∧ z ≤ 126) ∧ pl ≠ 61) then va_up pg pl.toNat z else pg)) : (if ¬ (32 ≤ z ∧ z ≤ 126) then (-100000003 : Int) else if 61 ≤ le then -100000005 else le + 1) = (if ¬ (32 ≤ z ∧ z ≤ 126) then -100000003 else if pl = 61 then -100000005 else pl + 1) ∧ RR le2 te2 no li dg nb wy pa ra fa ft dy er ti gr pak rak fak ftk dyk erk tik grk ik sp bo nr te9 pl2 nd lk st bq tj tv nv ml ij kt kl pg2 dl es rb ck fb fu kc kr ke kd kf kg := by
  obtain ⟨⟨r1, r1a, r1b⟩, r2, r3, r4, r5, r6, r7, r8, r9, r10, r11, r12, r13, r14, r15, P, rN, rM, rK⟩ := h
  subst r1 r2 r4 r6 r7 r9 r11 r12 r13
  refine ⟨by (repeat' split) <;> omega, ?_⟩
  by_cases hc : (32 ≤ z ∧ z ≤ 126) ∧ le ≠ 61
  · rw [if_pos hc] at e3 e4
    rw [if_pos (by omega)] at e1 e2
    subst e1 e2 e3 e4
    refine ⟨⟨rfl, by omega, by omega⟩, rfl, fun k hk => ?_, rfl, r5, rfl, rfl, r8, rfl, r10, rfl, rfl, rfl, r14, r15, P, rN, rM, rK⟩
    by_cases e : k = le.toNat
    · subst e; rw [up_s]; omega
    · rw [up_n _ _ _ e]; exact r3 k hk
  · rw [if_neg hc] at e3 e4
    rw [if_neg (by omega)] at e1 e2
    subst e1 e2 e3 e4
    exact ⟨⟨rfl, r1a, r1b⟩, rfl, r3, rfl, r5, rfl, rfl, r8, rfl, r10, rfl, rfl, rfl, r14, r15, P, rN, rM, rK⟩
theorem rr_blank {le no li ti gr tik grk ik sp bo nr te9 pl nd lk st bq tj tv nv ml ij kt kl : Int} {te dg nb wy pa ra fa ft dy er pak rak fak ftk dyk erk pg dl es rb ck fb fu kc kr ke kd kf kg : Nat → Int} (h : RR le te no li dg nb wy pa ra fa ft dy er ti gr pak rak fak ftk dyk erk tik grk ik sp bo nr te9 pl nd lk st bq tj tv nv ml ij kt kl pg dl es rb ck fb fu kc kr ke kd kf kg)  : le = pl ∧ RR 0 te no li dg nb wy pa ra fa ft dy er ti gr pak rak fak ftk dyk erk tik grk ik sp bo nr te9 0 nd lk st bq tj tv nv ml ij kt kl pg dl es rb ck fb fu kc kr ke kd kf kg := by
  obtain ⟨⟨r1, r1a, r1b⟩, r2, r3, r4, r5, r6, r7, r8, r9, r10, r11, r12, r13, r14, r15, P, rN, rM, rK⟩ := h
  subst r1 r2 r4 r6 r7 r9 r11 r12 r13
  exact ⟨rfl, ⟨rfl, by omega, by omega⟩, rfl, r3, rfl, r5, rfl, rfl, r8, rfl, r10, rfl, rfl, rfl, r14, r15, P, rN, rM, rK⟩
theorem rr_fault {le no li ti gr tik grk ik sp bo nr te9 pl nd lk st bq tj tv nv ml ij kt kl : Int} {te dg nb wy pa ra fa ft dy er pak rak fak ftk dyk erk pg dl es rb ck fb fu kc kr ke kd kf kg : Nat → Int} (h : RR le te no li dg nb wy pa ra fa ft dy er ti gr pak rak fak ftk dyk erk tik grk ik sp bo nr te9 pl nd lk st bq tj tv nv ml ij kt kl pg dl es rb ck fb fu kc kr ke kd kf kg)  : (fau te le.toNat : Int) = (fau pg pl.toNat : Int) := by
  obtain ⟨⟨r1, r1a, r1b⟩, r2, r3, r4, r5, r6, r7, r8, r9, r10, r11, r12, r13, r14, r15, P, rN, rM, rK⟩ := h
  subst r1 r2 r4 r6 r7 r9 r11 r12 r13
  rfl
theorem rr_set {le no li ti gr tik grk ik sp bo nr te9 pl nd lk st bq tj tv nv ml ij kt kl : Int} {te dg nb wy pa ra fa ft dy er pak rak fak ftk dyk erk pg dl es rb ck fb fu kc kr ke kd kf kg : Nat → Int} (h : RR le te no li dg nb wy pa ra fa ft dy er ti gr pak rak fak ftk dyk erk tik grk ik sp bo nr te9 pl nd lk st bq tj tv nv ml ij kt kl pg dl es rb ck fb fu kc kr ke kd kf kg) (q z : Int) {sp2 bo2 st2 bq2 : Int} (e1 : sp2 = (if ((0 ≤ q ∧ q ≤ 1) ∧ (1 ≤ z ∧ z ≤ (if q = 0 then 500 else 60))) ∧ q = 0 then z else sp)) (e2 : bo2 = (if ((0 ≤ q ∧ q ≤ 1) ∧ (1 ≤ z ∧ z ≤ (if q = 0 then 500 else 60))) ∧ q ≠ 0 then z else bo)) (e3 : st2 = (if ((0 ≤ q ∧ q ≤ 1) ∧ (1 ≤ z ∧ z ≤ (if q = 0 then 500 else 60))) ∧ q = 0 then z else st)) (e4 : bq2 = (if ((0 ≤ q ∧ q ≤ 1) ∧ (1 ≤ z ∧ z ≤ (if q = 0 then 500 else 60))) ∧ q ≠ 0 then z else bq)) : (if ¬ ((0 ≤ q ∧ q ≤ 1) ∧ (1 ≤ z ∧ z ≤ (if q = 0 then 500 else 60))) then (-100000003 : Int) else if q = 0 then sp else bo) = (if ¬ ((0 ≤ q ∧ q ≤ 1) ∧ (1 ≤ z ∧ z ≤ (if q = 0 then 500 else 60))) then -100000003 else if q = 0 then st else bq) ∧ RR le te no li dg nb wy pa ra fa ft dy er ti gr pak rak fak ftk dyk erk tik grk ik sp2 bo2 nr te9 pl nd lk st2 bq2 tj tv nv ml ij kt kl pg dl es rb ck fb fu kc kr ke kd kf kg := by
  obtain ⟨⟨r1, r1a, r1b⟩, r2, r3, r4, r5, r6, r7, r8, r9, r10, r11, r12, r13, r14, r15, P, rN, rM, rK⟩ := h
  subst r1 r2 r4 r6 r7 r9 r11 r12 r13
  refine ⟨rfl, ?_⟩
  subst e1 e2 e3 e4
  refine ⟨⟨rfl, r1a, r1b⟩, rfl, r3, rfl, r5, rfl, rfl, ?_, rfl, ?_, rfl, rfl, rfl, r14, r15, P, rN, rM, rK⟩
  · by_cases hc : ((0 ≤ q ∧ q ≤ 1) ∧ (1 ≤ z ∧ z ≤ (if q = 0 then 500 else 60))) ∧ q = 0
    · rw [if_pos hc]; have h5 := hc.1.2; rw [if_pos hc.2] at h5; omega
    · rw [if_neg hc]; exact r8
  · by_cases hc : ((0 ≤ q ∧ q ≤ 1) ∧ (1 ≤ z ∧ z ≤ (if q = 0 then 500 else 60))) ∧ q ≠ 0
    · rw [if_pos hc]; have h5 := hc.1.2; rw [if_neg hc.2] at h5; omega
    · rw [if_neg hc]; exact r10
theorem rr_rate {le no li ti gr tik grk ik sp bo nr te9 pl nd lk st bq tj tv nv ml ij kt kl : Int} {te dg nb wy pa ra fa ft dy er pak rak fak ftk dyk erk pg dl es rb ck fb fu kc kr ke kd kf kg : Nat → Int} (h : RR le te no li dg nb wy pa ra fa ft dy er ti gr pak rak fak ftk dyk erk tik grk ik sp bo nr te9 pl nd lk st bq tj tv nv ml ij kt kl pg dl es rb ck fb fu kc kr ke kd kf kg) (z y : Int) {ra2 rb2 : Nat → Int} (e1 : ra2 = (if ((0 ≤ z ∧ z < no) ∧ (90 ≤ y ∧ y ≤ 110)) then va_up ra z.toNat y else ra)) (e2 : rb2 = (if ((0 ≤ z ∧ z ≤ nd - 1) ∧ (90 ≤ y ∧ y ≤ 110)) then va_up rb z.toNat y else rb)) : (if ¬ (0 ≤ z ∧ z < no) then (-100000002 : Int) else if ¬ (90 ≤ y ∧ y ≤ 110) then -100000003 else ra z.toNat) = (if ¬ (0 ≤ z ∧ z ≤ nd - 1) then -100000002 else if ¬ (90 ≤ y ∧ y ≤ 110) then -100000003 else rb z.toNat) ∧ RR le te no li dg nb wy pa ra2 fa ft dy er ti gr pak rak fak ftk dyk erk tik grk ik sp bo nr te9 pl nd lk st bq tj tv nv ml ij kt kl pg dl es rb2 ck fb fu kc kr ke kd kf kg := by
  obtain ⟨⟨r1, r1a, r1b⟩, r2, r3, r4, r5, r6, r7, r8, r9, r10, r11, r12, r13, r14, r15, P, rN, rM, rK⟩ := h
  subst r1 r2 r4 r6 r7 r9 r11 r12 r13
  obtain ⟨m1, m2, m3, m4, m5, m6, m7, m8, m9, m10, m11, m12, m13, m14, m15, m16, m17⟩ := id rM
  have hPe : P = mBn dl no := by funext i j; exact (m17 i j).symm
  subst hPe
  have hck5 : CKB ck 50000000 := fun k hk => by have := m9 k hk; omega
  have hck4 : CKB ck 40000000 := fun k hk => by have := m9 k hk; omega
  refine ⟨?_, ?_⟩
  · by_cases c1 : 0 ≤ z ∧ z < no
    · rw [if_neg (show ¬ ¬ (0 ≤ z ∧ z < no) by omega), if_neg (show ¬ ¬ (0 ≤ z ∧ z ≤ no - 1) by omega), m3 z.toNat (by omega)]
    · rw [if_pos c1, if_pos (by omega)]
  · by_cases c1 : (0 ≤ z ∧ z < no) ∧ (90 ≤ y ∧ y ≤ 110)
    · rw [if_pos c1] at e1
      rw [if_pos (by omega)] at e2
      subst e1 e2
      refine ⟨⟨rfl, r1a, r1b⟩, rfl, r3, rfl, r5, rfl, rfl, r8, rfl, r10, rfl, rfl, rfl, r14, r15, _, rN, ⟨m1, m2, fun k hk => ?_, m4, m5, m6, m7, m8, m9, m10, m11, fun k hk => ?_, m13, m14, m15, m16, m17⟩, rK⟩
      · by_cases e : k = z.toNat
        · subst e; rw [up_s, up_s]
        · rw [up_n _ _ _ e, up_n _ _ _ e]; exact m3 k hk
      · by_cases e : k = z.toNat
        · subst e; rw [up_s]; omega
        · rw [up_n _ _ _ e]; exact m12 k hk
    · rw [if_neg c1] at e1
      rw [if_neg (by omega)] at e2
      subst e1 e2
      exact ⟨⟨rfl, r1a, r1b⟩, rfl, r3, rfl, r5, rfl, rfl, r8, rfl, r10, rfl, rfl, rfl, r14, r15, _, rN, rM, rK⟩
theorem rr_put {le no li ti gr tik grk ik sp bo nr te9 pl nd lk st bq tj tv nv ml ij kt kl : Int} {te dg nb wy pa ra fa ft dy er pak rak fak ftk dyk erk pg dl es rb ck fb fu kc kr ke kd kf kg : Nat → Int} (h : RR le te no li dg nb wy pa ra fa ft dy er ti gr pak rak fak ftk dyk erk tik grk ik sp bo nr te9 pl nd lk st bq tj tv nv ml ij kt kl pg dl es rb ck fb fu kc kr ke kd kf kg) (z y : Int) {pa2 ck2 : Nat → Int} (e1 : pa2 = (if ((0 ≤ z ∧ z < no) ∧ (0 ≤ y ∧ y ≤ 1000000)) then tcC pa z.toNat y else pa)) (e2 : ck2 = (if ((0 ≤ z ∧ z ≤ nd - 1) ∧ (0 ≤ y ∧ y ≤ 1000000)) then stC ck z.toNat y else ck)) : (if ¬ (0 ≤ z ∧ z < no) then (-100000002 : Int) else if ¬ (0 ≤ y ∧ y ≤ 1000000) then -100000003 else pa z.toNat) = (if ¬ (0 ≤ z ∧ z ≤ nd - 1) then -100000002 else if ¬ (0 ≤ y ∧ y ≤ 1000000) then -100000003 else ck (4 * z.toNat)) ∧ RR le te no li dg nb wy pa2 ra fa ft dy er ti gr pak rak fak ftk dyk erk tik grk ik sp bo nr te9 pl nd lk st bq tj tv nv ml ij kt kl pg dl es rb ck2 fb fu kc kr ke kd kf kg := by
  obtain ⟨⟨r1, r1a, r1b⟩, r2, r3, r4, r5, r6, r7, r8, r9, r10, r11, r12, r13, r14, r15, P, rN, rM, rK⟩ := h
  subst r1 r2 r4 r6 r7 r9 r11 r12 r13
  obtain ⟨m1, m2, m3, m4, m5, m6, m7, m8, m9, m10, m11, m12, m13, m14, m15, m16, m17⟩ := id rM
  have hPe : P = mBn dl no := by funext i j; exact (m17 i j).symm
  subst hPe
  have hck5 : CKB ck 50000000 := fun k hk => by have := m9 k hk; omega
  have hck4 : CKB ck 40000000 := fun k hk => by have := m9 k hk; omega
  refine ⟨?_, ?_⟩
  · by_cases c1 : 0 ≤ z ∧ z < no
    · rw [if_neg (show ¬ ¬ (0 ≤ z ∧ z < no) by omega), if_neg (show ¬ ¬ (0 ≤ z ∧ z ≤ no - 1) by omega), pa_ck0 m1 r5 (show ((z.toNat : Nat) : Int) < no by omega)]
    · rw [if_pos c1, if_pos (by omega)]
  · by_cases c1 : (0 ≤ z ∧ z < no) ∧ (0 ≤ y ∧ y ≤ 1000000)
    · rw [if_pos c1] at e1
      rw [if_pos (by omega)] at e2
      subst e1 e2
      refine ⟨⟨rfl, r1a, r1b⟩, rfl, r3, rfl, r5, rfl, rfl, r8, rfl, r10, rfl, rfl, rfl, r14, r15, _, rN, ⟨⟨fun k hk hn => ?_, m1.2⟩, m2, m3, m4, m5, m6, m7, m8, fun k hk => ?_, fun k hk => ?_, m11, m12, m13, m14, m15, m16, m17⟩, rK⟩
      · unfold tcC stC
        by_cases e : k % 6 = z.toNat
        · rw [if_pos e, if_pos (by omega)]
        · rw [if_neg e, if_neg (by omega)]; exact m1.1 k hk hn
      · have := m9 k hk
        unfold stC
        split <;> omega
      · have := m10 k hk
        unfold tcC
        split <;> omega
    · rw [if_neg c1] at e1
      rw [if_neg (by omega)] at e2
      subst e1 e2
      exact ⟨⟨rfl, r1a, r1b⟩, rfl, r3, rfl, r5, rfl, rfl, r8, rfl, r10, rfl, rfl, rfl, r14, r15, _, rN, rM, rK⟩
theorem rr_wrong {le no li ti gr tik grk ik sp bo nr te9 pl nd lk st bq tj tv nv ml ij kt kl : Int} {te dg nb wy pa ra fa ft dy er pak rak fak ftk dyk erk pg dl es rb ck fb fu kc kr ke kd kf kg : Nat → Int} (h : RR le te no li dg nb wy pa ra fa ft dy er ti gr pak rak fak ftk dyk erk tik grk ik sp bo nr te9 pl nd lk st bq tj tv nv ml ij kt kl pg dl es rb ck fb fu kc kr ke kd kf kg) (z w y : Int) {er2 es2 : Nat → Int} (e1 : er2 = (if (xHL wy no z w = true ∧ (-9 ≤ y ∧ y ≤ 9)) then va_up er (z * 6 + w).toNat y else er)) (e2 : es2 = (if (mB dl nd z w = true ∧ (-9 ≤ y ∧ y ≤ 9)) then va_up es (6 * z + w).toNat y else es)) : (if ¬ xHL wy no z w = true then (-100000002 : Int) else if ¬ (-9 ≤ y ∧ y ≤ 9) then -100000003 else er (z * 6 + w).toNat) = (if ¬ mB dl nd z w = true then -100000002 else if ¬ (-9 ≤ y ∧ y ≤ 9) then -100000003 else es (6 * z + w).toNat) ∧ RR le te no li dg nb wy pa ra fa ft dy er2 ti gr pak rak fak ftk dyk erk tik grk ik sp bo nr te9 pl nd lk st bq tj tv nv ml ij kt kl pg dl es2 rb ck fb fu kc kr ke kd kf kg := by
  obtain ⟨⟨r1, r1a, r1b⟩, r2, r3, r4, r5, r6, r7, r8, r9, r10, r11, r12, r13, r14, r15, P, rN, rM, rK⟩ := h
  subst r1 r2 r4 r6 r7 r9 r11 r12 r13
  obtain ⟨m1, m2, m3, m4, m5, m6, m7, m8, m9, m10, m11, m12, m13, m14, m15, m16, m17⟩ := id rM
  have hPe : P = mBn dl no := by funext i j; exact (m17 i j).symm
  subst hPe
  have hck5 : CKB ck 50000000 := fun k hk => by have := m9 k hk; omega
  have hck4 : CKB ck 40000000 := fun k hk => by have := m9 k hk; omega
  have hhl : (xHL wy no z w = true) ↔ (mB dl no z w = true) := by
    rw [xHL_iff, mB_iff]
    constructor
    · rintro ⟨g1, g2, g3⟩
      have hw := (rN.2.2.2.2.2.2.1.2.2.1 z.toNat w.toNat (by omega) (by omega)).mp (by rw [show z.toNat * 6 + w.toNat = (z * 6 + w).toNat by omega]; exact g3)
      have := mB_nat.mp hw
      exact ⟨by omega, by omega, by omega, by rw [show (6 * z + w).toNat = 6 * z.toNat + w.toNat by omega]; exact this.2.2.2⟩
    · rintro ⟨g1, g2, g3, g4⟩
      have hw : mBn dl no z.toNat w.toNat = true := mB_nat.mpr ⟨by omega, by omega, by omega, by rw [show 6 * z.toNat + w.toNat = (6 * z + w).toNat by omega]; exact g4⟩
      have := (rN.2.2.2.2.2.2.1.2.2.1 z.toNat w.toNat (by omega) (by omega)).mpr hw
      exact ⟨by omega, by omega, by rw [show (z * 6 + w).toNat = z.toNat * 6 + w.toNat by omega]; exact this⟩
  refine ⟨?_, ?_⟩
  · by_cases c1 : mB dl no z w = true
    · have hb := mB_iff.mp c1
      rw [if_neg (show ¬ ¬ xHL wy no z w = true from fun q => q (hhl.mpr c1)), if_neg (show ¬ ¬ mB dl no z w = true from fun q => q c1), m2.2 (z * 6 + w).toNat (by omega), show (z * 6 + w).toNat = (6 * z + w).toNat by omega]
    · rw [if_pos (show ¬ xHL wy no z w = true from fun q => c1 (hhl.mp q)), if_pos c1]
  · by_cases c1 : mB dl no z w = true ∧ (-9 ≤ y ∧ y ≤ 9)
    · have hb := mB_iff.mp c1.1
      rw [if_pos ⟨hhl.mpr c1.1, c1.2⟩] at e1
      rw [if_pos c1] at e2
      subst e1 e2
      refine ⟨⟨rfl, r1a, r1b⟩, rfl, r3, rfl, r5, rfl, rfl, r8, rfl, r10, rfl, rfl, rfl, r14, r15, _, rN, ⟨m1, ⟨m2.1, fun k hk => ?_⟩, m3, m4, m5, m6, m7, m8, m9, m10, m11, m12, fun k hk => ?_, m14, m15, m16, m17⟩, rK⟩
      · rw [show (z * 6 + w).toNat = (6 * z + w).toNat by omega]
        by_cases e : k = (6 * z + w).toNat
        · rw [e, up_s, up_s]
        · rw [up_n _ _ _ e, up_n _ _ _ e]; exact m2.2 k hk
      · by_cases e : k = (6 * z + w).toNat
        · rw [e, up_s]; omega
        · rw [up_n _ _ _ e]; exact m13 k hk
    · rw [if_neg (fun q => c1 ⟨hhl.mp q.1, q.2⟩)] at e1
      rw [if_neg c1] at e2
      subst e1 e2
      exact ⟨⟨rfl, r1a, r1b⟩, rfl, r3, rfl, r5, rfl, rfl, r8, rfl, r10, rfl, rfl, rfl, r14, r15, _, rN, rM, rK⟩
theorem rr_delay {le no li ti gr tik grk ik sp bo nr te9 pl nd lk st bq tj tv nv ml ij kt kl : Int} {te dg nb wy pa ra fa ft dy er pak rak fak ftk dyk erk pg dl es rb ck fb fu kc kr ke kd kf kg : Nat → Int} (h : RR le te no li dg nb wy pa ra fa ft dy er ti gr pak rak fak ftk dyk erk tik grk ik sp bo nr te9 pl nd lk st bq tj tv nv ml ij kt kl pg dl es rb ck fb fu kc kr ke kd kf kg) (z w y : Int) {dy2 dl2 : Nat → Int} (e1 : dy2 = (if (xHL wy no z w = true ∧ (0 ≤ y ∧ y ≤ 3)) then va_up (va_up dy (z.toNat * 6 + w.toNat) y) (w.toNat * 6 + z.toNat) y else dy)) (e2 : dl2 = (if (mB dl nd z w = true ∧ (0 ≤ y ∧ y ≤ 3)) then va_up (va_up dl (6 * z + w).toNat y) (6 * w + z).toNat y else dl)) : (if ¬ xHL wy no z w = true then (-100000002 : Int) else if ¬ (0 ≤ y ∧ y ≤ 3) then -100000003 else dy (z * 6 + w).toNat) = (if ¬ mB dl nd z w = true then -100000002 else if ¬ (0 ≤ y ∧ y ≤ 3) then -100000003 else dl (6 * z + w).toNat) ∧ RR le te no li dg nb wy pa ra fa ft dy2 er ti gr pak rak fak ftk dyk erk tik grk ik sp bo nr te9 pl nd lk st bq tj tv nv ml ij kt kl pg dl2 es rb ck fb fu kc kr ke kd kf kg := by
  obtain ⟨⟨r1, r1a, r1b⟩, r2, r3, r4, r5, r6, r7, r8, r9, r10, r11, r12, r13, r14, r15, P, rN, rM, rK⟩ := h
  subst r1 r2 r4 r6 r7 r9 r11 r12 r13
  obtain ⟨m1, m2, m3, m4, m5, m6, m7, m8, m9, m10, m11, m12, m13, m14, m15, m16, m17⟩ := id rM
  have hPe : P = mBn dl no := by funext i j; exact (m17 i j).symm
  subst hPe
  have hck5 : CKB ck 50000000 := fun k hk => by have := m9 k hk; omega
  have hck4 : CKB ck 40000000 := fun k hk => by have := m9 k hk; omega
  have hhl : (xHL wy no z w = true) ↔ (mB dl no z w = true) := by
    rw [xHL_iff, mB_iff]
    constructor
    · rintro ⟨g1, g2, g3⟩
      have hw := (rN.2.2.2.2.2.2.1.2.2.1 z.toNat w.toNat (by omega) (by omega)).mp (by rw [show z.toNat * 6 + w.toNat = (z * 6 + w).toNat by omega]; exact g3)
      have := mB_nat.mp hw
      exact ⟨by omega, by omega, by omega, by rw [show (6 * z + w).toNat = 6 * z.toNat + w.toNat by omega]; exact this.2.2.2⟩
    · rintro ⟨g1, g2, g3, g4⟩
      have hw : mBn dl no z.toNat w.toNat = true := mB_nat.mpr ⟨by omega, by omega, by omega, by rw [show 6 * z.toNat + w.toNat = (6 * z + w).toNat by omega]; exact g4⟩
      have := (rN.2.2.2.2.2.2.1.2.2.1 z.toNat w.toNat (by omega) (by omega)).mpr hw
      exact ⟨by omega, by omega, by rw [show (z * 6 + w).toNat = z.toNat * 6 + w.toNat by omega]; exact this⟩
  refine ⟨?_, ?_⟩
  · by_cases c1 : mB dl no z w = true
    · have hb := mB_iff.mp c1
      have hw : mBn dl no z.toNat w.toNat = true := mB_nat.mpr ⟨by omega, by omega, by omega, by rw [show 6 * z.toNat + w.toNat = (6 * z + w).toNat by omega]; exact hb.2.2.2⟩
      rw [if_neg (show ¬ ¬ xHL wy no z w = true from fun q => q (hhl.mpr c1)), if_neg (show ¬ ¬ mB dl no z w = true from fun q => q c1), show (z * 6 + w).toNat = z.toNat * 6 + w.toNat by omega, m2.1 _ _ hw, show 6 * z.toNat + w.toNat = (6 * z + w).toNat by omega]
    · rw [if_pos (show ¬ xHL wy no z w = true from fun q => c1 (hhl.mp q)), if_pos c1]
  · by_cases c1 : mB dl no z w = true ∧ (0 ≤ y ∧ y ≤ 3)
    · have hb := mB_iff.mp c1.1
      rw [if_pos ⟨hhl.mpr c1.1, c1.2⟩] at e1
      rw [if_pos c1, show (6 * z + w).toNat = z.toNat * 6 + w.toNat by omega, show (6 * w + z).toNat = w.toNat * 6 + z.toNat by omega] at e2
      have hb4 : dl (z.toNat * 6 + w.toNat) ≠ -100000001 := by rw [show z.toNat * 6 + w.toNat = (6 * z + w).toNat by omega]; exact hb.2.2.2
      have hb5 : dl (w.toNat * 6 + z.toNat) ≠ -100000001 := by rw [show w.toNat * 6 + z.toNat = 6 * w.toNat + z.toNat by omega, m15 _ _ (by omega) (by omega), show 6 * z.toNat + w.toNat = (6 * z + w).toNat by omega]; exact hb.2.2.2
      have hsame : ∀ k : Nat, dl2 k ≠ -100000001 ↔ dl k ≠ -100000001 := by
        intro k
        subst e2
        simp only [va_up]
        split
        · rename_i q; rw [q]; exact ⟨fun _ => hb5, fun _ => by omega⟩
        · split
          · rename_i q; rw [q]; exact ⟨fun _ => hb4, fun _ => by omega⟩
          · exact Iff.rfl
      have hP : mBn dl2 no = mBn dl no := by
        funext i j
        have : mBn dl2 no i j = true ↔ mBn dl no i j = true := by
          show mB dl2 no i j = true ↔ mB dl no i j = true
          rw [mB_nat, mB_nat, hsame]
        cases e3 : mBn dl2 no i j with
        | true => exact (this.mp e3).symm
        | false =>
          cases e4 : mBn dl no i j with
          | true => exact absurd (this.mpr e4) (by rw [e3]; decide)
          | false => rfl
      refine ⟨⟨rfl, r1a, r1b⟩, rfl, r3, rfl, r5, rfl, rfl, r8, rfl, r10, rfl, rfl, rfl, r14, r15, mBn dl no, rN, ⟨m1, ⟨fun i j hb9 => ?_, m2.2⟩, m3, m4, m5, m6, m7, m8, m9, m10, m11, m12, m13, fun k hk => ?_, fun i j hi hj => ?_, fun k hk => ?_, fun i j => by rw [hP]⟩, rK⟩
      · rw [hP] at hb9
        have hlt := mBn_lt r5 hb9
        have hold := m2.1 i j hb9
        subst e1 e2
        simp only [va_up]
        rw [show 6 * i + j = i * 6 + j by omega] at hold ⊢
        (repeat' split) <;> first | rfl | exact hold
      · have := m14 k hk
        subst e2
        simp only [va_up]
        (repeat' split) <;> first | exact this | (right; omega)
      · have := m15 i j hi hj
        subst e2
        simp only [va_up]
        (repeat' split) <;> first | rfl | exact this | omega
      · have := m16 k hk
        subst e1
        simp only [va_up]
        (repeat' split) <;> first | exact this | omega
    · rw [if_neg (fun q => c1 ⟨hhl.mp q.1, q.2⟩)] at e1
      rw [if_neg c1] at e2
      subst e1 e2
      exact ⟨⟨rfl, r1a, r1b⟩, rfl, r3, rfl, r5, rfl, rfl, r8, rfl, r10, rfl, rfl, rfl, r14, r15, _, rN, rM, rK⟩
