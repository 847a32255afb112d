theorem rr_net {le no li ti gr tik grk ik sp bo nr te9 pl nd lk st bq tj tv nv ml ij kt kl : Int} {te dg nb wy pa ra fa ft dy er pak rak fak ftk dyk erk pg dl es rb ck fb fu kc kr ke kd kf kg : Nat → Int} (h : RR le te no li dg nb wy pa ra fa ft dy er ti gr pak rak fak ftk dyk erk tik grk ik sp bo nr te9 pl nd lk st bq tj tv nv ml ij kt kl pg dl es rb ck fb fu kc kr ke kd kf kg) {no2 : Int} {li2 : Int} {dg2 : Nat → Int} {nb2 : Nat → Int} {wy2 : Nat → Int} {pa2 : Nat → Int} {ra2 : Nat → Int} {fa2 : Nat → Int} {ft2 : Nat → Int} {er2 : Nat → Int} {dy2 : Nat → Int} {ti2 : Int} {gr2 : Int} {ik2 : Int} {nr2 : Int} {le2 : Int} {nd2 : Int} {lk2 : Int} {dl2 : Nat → Int} {es2 : Nat → Int} {rb2 : Nat → Int} {fb2 : Nat → Int} {fu2 : Nat → Int} {ck2 : Nat → Int} {tj2 : Int} {ml2 : Int} {ij2 : Int} {nv2 : Int} {pl2 : Int} (e0 : no2 = (if (fau te le.toNat = le.toNat ∧ 4 < le ∧ le % 4 = 1) then tD te 0 else no)) (e1 : li2 = (if (fau te le.toNat = le.toNat ∧ 4 < le ∧ le % 4 = 1) then (le - 1) / 4 else li)) (e2 : dg2 = (if (fau te le.toNat = le.toNat ∧ 4 < le ∧ le % 4 = 1) then (jS te nb ((le.toNat - 1) / 4)).1 else dg)) (e3 : nb2 = (if (fau te le.toNat = le.toNat ∧ 4 < le ∧ le % 4 = 1) then (jS te nb ((le.toNat - 1) / 4)).2.1 else nb)) (e4 : wy2 = (if (fau te le.toNat = le.toNat ∧ 4 < le ∧ le % 4 = 1) then fwO (jS te nb ((le.toNat - 1) / 4)).2.2 (tD te 0).toNat (tD te 0).toNat else wy)) (e5 : pa2 = (if (fau te le.toNat = le.toNat ∧ 4 < le ∧ le % 4 = 1) then (fun _ => 0) else pa)) (e6 : ra2 = (if (fau te le.toNat = le.toNat ∧ 4 < le ∧ le % 4 = 1) then (fun _ => 100) else ra)) (e7 : fa2 = (if (fau te le.toNat = le.toNat ∧ 4 < le ∧ le % 4 = 1) then (fun _ => 0) else fa)) (e8 : ft2 = (if (fau te le.toNat = le.toNat ∧ 4 < le ∧ le % 4 = 1) then (fun _ => 0) else ft)) (e9 : er2 = (if (fau te le.toNat = le.toNat ∧ 4 < le ∧ le % 4 = 1) then (fun _ => 0) else er)) (e10 : dy2 = (if (fau te le.toNat = le.toNat ∧ 4 < le ∧ le % 4 = 1) then dS te dy ((le.toNat - 1) / 4) else dy)) (e11 : ti2 = (if (fau te le.toNat = le.toNat ∧ 4 < le ∧ le % 4 = 1) then 0 else ti)) (e12 : gr2 = (if (fau te le.toNat = le.toNat ∧ 4 < le ∧ le % 4 = 1) then 0 else gr)) (e13 : ik2 = (if (fau te le.toNat = le.toNat ∧ 4 < le ∧ le % 4 = 1) then 0 else ik)) (e14 : nr2 = (if (fau te le.toNat = le.toNat ∧ 4 < le ∧ le % 4 = 1) then nr + 1 else nr)) (e15 : le2 = (if (fau te le.toNat = le.toNat ∧ 4 < le ∧ le % 4 = 1) then 0 else le)) (e16 : nd2 = (if (fau pg pl.toNat = pl.toNat ∧ 4 < pl ∧ pl % 4 = 1) then tD pg 0 else nd)) (e17 : lk2 = (if (fau pg pl.toNat = pl.toNat ∧ 4 < pl ∧ pl % 4 = 1) then ((((pl.toNat - 1) / 4) : Nat) : Int) else lk)) (e18 : dl2 = (if (fau pg pl.toNat = pl.toNat ∧ 4 < pl ∧ pl % 4 = 1) then lkM pg ((pl.toNat - 1) / 4) else dl)) (e19 : es2 = (if (fau pg pl.toNat = pl.toNat ∧ 4 < pl ∧ pl % 4 = 1) then (fun _ => 0) else es)) (e20 : rb2 = (if (fau pg pl.toNat = pl.toNat ∧ 4 < pl ∧ pl % 4 = 1) then (fun _ => 100) else rb)) (e21 : fb2 = (if (fau pg pl.toNat = pl.toNat ∧ 4 < pl ∧ pl % 4 = 1) then (fun _ => 0) else fb)) (e22 : fu2 = (if (fau pg pl.toNat = pl.toNat ∧ 4 < pl ∧ pl % 4 = 1) then (fun _ => 0) else fu)) (e23 : ck2 = (if (fau pg pl.toNat = pl.toNat ∧ 4 < pl ∧ pl % 4 = 1) then (fun _ => 0) else ck)) (e24 : tj2 = (if (fau pg pl.toNat = pl.toNat ∧ 4 < pl ∧ pl % 4 = 1) then 0 else tj)) (e25 : ml2 = (if (fau pg pl.toNat = pl.toNat ∧ 4 < pl ∧ pl % 4 = 1) then 0 else ml)) (e26 : ij2 = (if (fau pg pl.toNat = pl.toNat ∧ 4 < pl ∧ pl % 4 = 1) then 0 else ij)) (e27 : nv2 = (if (fau pg pl.toNat = pl.toNat ∧ 4 < pl ∧ pl % 4 = 1) then nv + 1 else nv)) (e28 : pl2 = (if (fau pg pl.toNat = pl.toNat ∧ 4 < pl ∧ pl % 4 = 1) then 0 else pl)) : (if (fau te le.toNat = le.toNat ∧ 4 < le ∧ le % 4 = 1) then tD te 0 else (-100000004 : Int)) = (if (fau pg pl.toNat = pl.toNat ∧ 4 < pl ∧ pl % 4 = 1) then tD pg 0 else -100000004) ∧ RR le2 te no2 li2 dg2 nb2 wy2 pa2 ra2 fa2 ft2 dy2 er2 ti2 gr2 pak rak fak ftk dyk erk tik grk ik2 sp bo nr2 te9 pl2 nd2 lk2 st bq tj2 tv nv2 ml2 ij2 kt kl pg dl2 es2 rb2 ck2 fb2 fu2 kc kr ke kd kf kg := by
  obtain ⟨⟨r1, r1a, r1b⟩, r2, r3, r4, r5, r6, r7, r8, r9, r10, r11, r12, r13, r14, r15, P, rN, rM, rK⟩ := h
  subst r1 r2 r4 r6 r7 r9 r11 r12 r13
  obtain ⟨m1, m2, m3, m4, m5, m6, m7, m8, m9, m10, m11, m12, m13, m14, m15, m16, m17⟩ := id rM
  have hPe : P = mBn dl no := by funext i j; exact (m17 i j).symm
  subst hPe
  have hck5 : CKB ck 50000000 := fun k hk => by have := m9 k hk; omega
  have hck4 : CKB ck 40000000 := fun k hk => by have := m9 k hk; omega
  refine ⟨rfl, ?_⟩
  by_cases hc : (fau te le.toNat = le.toNat ∧ 4 < le ∧ le % 4 = 1)
  · simp only [if_pos hc] at e0 e1 e2 e3 e4 e5 e6 e7 e8 e9 e10 e11 e12 e13 e14 e15 e16 e17 e18 e19 e20 e21 e22 e23 e24 e25 e26 e27 e28
    subst e0 e1 e2 e3 e4 e5 e6 e7 e8 e9 e10 e11 e12 e13 e14 e15 e16 e17 e18 e19 e20 e21 e22 e23 e24 e25 e26 e27 e28
    have hfit := fau_all hc.1
    have h0 := fit0.mp (hfit 0 (by omega))
    have hlk : lkOK te ((le.toNat - 1) / 4) := lkOK_of hfit (by omega)
    refine ⟨⟨rfl, by omega, by omega⟩, rfl, r3, rfl, by omega, by omega, rfl, r8, rfl, r10, rfl, rfl, rfl, Or.inl rfl, r15, _, NI_net hlk h0 (by omega), ⟨⟨fun k _ _ => rfl, fun k _ => rfl⟩, ⟨fun i j hb => ?_, fun k _ => rfl⟩, fun k _ => rfl, fun k _ => rfl, rfl, rfl, by omega, by omega, fun k _ => ⟨by dsimp only; omega, by dsimp only; omega⟩, fun k _ => ⟨by dsimp only; omega, by dsimp only; omega⟩, fun k _ => Or.inl rfl, fun k _ => ⟨by dsimp only; omega, by dsimp only; omega⟩, fun k _ => ⟨by dsimp only; omega, by dsimp only; omega⟩, lkM_bd h0.2 hlk, fun i j hi hj => lkM_sym h0.2 _ hlk i j hi hj, dS_bd m16 _ hlk, fun i j => rfl⟩, fun q => absurd q (by omega)⟩
    rw [show i * 6 + j = 6 * i + j by omega]
    exact dS_lkM _ hlk _ (mB_nat.mp hb).2.2.2
  · simp only [if_neg hc] at e0 e1 e2 e3 e4 e5 e6 e7 e8 e9 e10 e11 e12 e13 e14 e15 e16 e17 e18 e19 e20 e21 e22 e23 e24 e25 e26 e27 e28
    subst e0 e1 e2 e3 e4 e5 e6 e7 e8 e9 e10 e11 e12 e13 e14 e15 e16 e17 e18 e19 e20 e21 e22 e23 e24 e25 e26 e27 e28
    exact ⟨⟨rfl, r1a, r1b⟩, rfl, r3, rfl, r5, rfl, rfl, r8, rfl, r10, rfl, rfl, rfl, r14, r15, _, rN, rM, rK⟩
theorem itM_bd {dl er ra ck fa : Nat → Int} {nd st bo B ml : Int} (hnd : 0 ≤ nd ∧ nd ≤ 6) (hck : ∀ k : Nat, k < 24 → 0 ≤ ck k ∧ ck k ≤ B) (hfa : ∀ k : Nat, k < 6 → fa k = 0 ∨ fa k = 1) (hra : ∀ k : Nat, k < 6 → 0 ≤ ra k ∧ ra k ≤ 110) (hbo : 1 ≤ bo ∧ bo ≤ 60) (hml : 0 ≤ ml ∧ ml ≤ 50000000) : ∀ i : Nat, B + 170 * i ≤ 50000000 → 0 ≤ itM dl er ra nd st bo ck fa ml i ∧ itM dl er ra nd st bo ck fa ml i ≤ 50000000
  | 0, _ => hml
  | i + 1, hB => by
    have ih := itM_bd (dl := dl) (er := er) (nd := nd) (st := st) hnd hck hfa hra hbo hml i (by omega)
    have hb := itS_bd (dl := dl) (er := er) (nd := nd) (st := st) hck hfa hra hbo (i + 1)
    have hl := mLo_rng (ck := (itS dl er ra nd st bo ck fa (i + 1)).1) (dl := dl) (nd := nd) (fun k hk => by have := hb.1 k hk; omega) hnd
    rw [itM]
    split <;> omega
theorem rr_go {le no li ti gr tik grk ik sp bo nr te9 pl nd lk st bq tj tv nv ml ij kt kl : Int} {te dg nb wy pa ra fa ft dy er pak rak fak ftk dyk erk pg dl es rb ck fb fu kc kr ke kd kf kg : Nat → Int} (h : RR le te no li dg nb wy pa ra fa ft dy er ti gr pak rak fak ftk dyk erk tik grk ik sp bo nr te9 pl nd lk st bq tj tv nv ml ij kt kl pg dl es rb ck fb fu kc kr ke kd kf kg) (z : Int) {ti2 : Int} {te92 : Int} {gr2 : Int} {pa2 : Nat → Int} {fa2 : Nat → Int} {ft2 : Nat → Int} {tj2 : Int} {tv2 : Int} {ml2 : Int} {ck2 : Nat → Int} {fb2 : Nat → Int} {fu2 : Nat → Int} (e0 : ti2 = (if ((1 ≤ z ∧ z ≤ 100) ∧ 0 < no ∧ ti + z ≤ 9000) then ti + z else ti)) (e1 : te92 = (if ((1 ≤ z ∧ z ≤ 100) ∧ 0 < no ∧ ti + z ≤ 9000) then te9 + z else te9)) (e2 : gr2 = (if ((1 ≤ z ∧ z ≤ 100) ∧ 0 < no ∧ ti + z ≤ 9000) then xIM dy er dg nb ra wy no sp bo pa fa gr z.toNat else gr)) (e3 : pa2 = (if ((1 ≤ z ∧ z ≤ 100) ∧ 0 < no ∧ ti + z ≤ 9000) then (xIS dy er dg nb ra no sp bo pa fa z.toNat).1 else pa)) (e4 : fa2 = (if ((1 ≤ z ∧ z ≤ 100) ∧ 0 < no ∧ ti + z ≤ 9000) then (xIS dy er dg nb ra no sp bo pa fa z.toNat).2 else fa)) (e5 : ft2 = (if ((1 ≤ z ∧ z ≤ 100) ∧ 0 < no ∧ ti + z ≤ 9000) then xIT dy er dg nb ra no sp bo pa fa ft z.toNat else ft)) (e6 : tj2 = (if ((1 ≤ z ∧ z ≤ 100) ∧ nd ≠ 0 ∧ tj + z ≤ 9000) then tj + z else tj)) (e7 : tv2 = (if ((1 ≤ z ∧ z ≤ 100) ∧ nd ≠ 0 ∧ tj + z ≤ 9000) then tv + z else tv)) (e8 : ml2 = (if ((1 ≤ z ∧ z ≤ 100) ∧ nd ≠ 0 ∧ tj + z ≤ 9000) then itM dl es rb nd st bq ck fb ml z.toNat else ml)) (e9 : ck2 = (if ((1 ≤ z ∧ z ≤ 100) ∧ nd ≠ 0 ∧ tj + z ≤ 9000) then (itS dl es rb nd st bq ck fb z.toNat).1 else ck)) (e10 : fb2 = (if ((1 ≤ z ∧ z ≤ 100) ∧ nd ≠ 0 ∧ tj + z ≤ 9000) then (itS dl es rb nd st bq ck fb z.toNat).2 else fb)) (e11 : fu2 = (if ((1 ≤ z ∧ z ≤ 100) ∧ nd ≠ 0 ∧ tj + z ≤ 9000) then itT dl es rb nd st bq ck fb fu z.toNat else fu)) : (if ¬ (1 ≤ z ∧ z ≤ 100) then (-100000003 : Int) else if ¬ 0 < no ∨ 9000 < ti + z then -100000004 else xSp (xIS dy er dg nb ra no sp bo pa fa z.toNat).1 wy no 1) = (if ¬ (1 ≤ z ∧ z ≤ 100) then -100000003 else if nd = 0 ∨ 9000 < tj + z then -100000004 else mLo (itS dl es rb nd st bq ck fb z.toNat).1 dl nd) ∧ RR le te no li dg nb wy pa2 ra fa2 ft2 dy er ti2 gr2 pak rak fak ftk dyk erk tik grk ik sp bo nr te92 pl nd lk st bq tj2 tv2 nv ml2 ij kt kl pg dl es rb ck2 fb2 fu2 kc kr ke kd kf kg := by
  obtain ⟨⟨r1, r1a, r1b⟩, r2, r3, r4, r5, r6, r7, r8, r9, r10, r11, r12, r13, r14, r15, P, rN, rM, rK⟩ := h
  subst r1 r2 r4 r6 r7 r9 r11 r12 r13
  obtain ⟨m1, m2, m3, m4, m5, m6, m7, m8, m9, m10, m11, m12, m13, m14, m15, m16, m17⟩ := id rM
  have hPe : P = mBn dl no := by funext i j; exact (m17 i j).symm
  subst hPe
  have hck5 : CKB ck 50000000 := fun k hk => by have := m9 k hk; omega
  have hck4 : CKB ck 40000000 := fun k hk => by have := m9 k hk; omega
  subst m5 m6
  by_cases hc : (1 ≤ z ∧ z ≤ 100) ∧ 0 < no ∧ ti + z ≤ 9000
  · have hB : 1000000 + 170 * ti + 170 * (z.toNat : Int) ≤ 50000000 := by omega
    have hit := it_rel (bo := bo) (ra := ra) (rb := rb) r5 r8 r10 rN m9 m13 m14 m11 m1 m2 m3 m12 z.toNat hB
    have hib := itS_bd (dl := dl) (er := es) (nd := no) (st := sp) m9 m11 m12 r10 z.toNat
    have hxb := xIS_bd (dy := dy) (er := er) (dg := dg) (nb := nb) (no := no) (sp := sp) (fa := fa) (ra := ra) m10 (fun k hk => by rw [m1.2 k hk]; exact m11 k hk) (fun k hk => by rw [m3 k hk]; exact m12 k hk) r10 z.toNat
    refine ⟨?_, ?_⟩
    · rw [if_neg (by omega), if_neg (by omega), if_neg (by omega), if_neg (by omega)]
      exact lo_eq ⟨hc.2.1, r5.2⟩ rN (fun k hk => by have := hib.1 k hk; omega) hit
    · have hc2 : (1 ≤ z ∧ z ≤ 100) ∧ no ≠ 0 ∧ ti + z ≤ 9000 := by omega
      simp only [if_pos hc, if_pos hc2] at e0 e1 e2 e3 e4 e5 e6 e7 e8 e9 e10 e11
      subst e0 e1 e2 e3 e4 e5 e6 e7 e8 e9 e10 e11
      refine ⟨⟨rfl, r1a, r1b⟩, rfl, r3, rfl, r5, rfl, rfl, r8, rfl, r10, rfl, rfl, rfl, r14, r15, _, rN, ⟨hit, m2, m3, ft_rel r5 r8 r10 rN m9 m13 m14 m11 m1 m2 m3 m12 m4 z.toNat hB, rfl, im_eq ⟨hc.2.1, r5.2⟩ r8 r10 rN m9 m13 m14 m11 m1 m2 m3 m12 z.toNat hB, by omega, itM_bd r5 m9 m11 m12 r10 m8 z.toNat hB, fun k hk => by have := hib.1 k hk; omega, fun k hk => by have := hxb.1 k hk; omega, hib.2, m12, m13, m14, m15, m16, m17⟩, rK⟩
  · have hc2 : ¬ ((1 ≤ z ∧ z ≤ 100) ∧ no ≠ 0 ∧ ti + z ≤ 9000) := by omega
    refine ⟨?_, ?_⟩
    · by_cases c1 : 1 ≤ z ∧ z ≤ 100
      · rw [if_neg (show ¬ ¬ (1 ≤ z ∧ z ≤ 100) by omega), if_neg (show ¬ ¬ (1 ≤ z ∧ z ≤ 100) by omega), if_pos (show ¬ 0 < no ∨ 9000 < ti + z by omega), if_pos (show no = 0 ∨ 9000 < ti + z by omega)]
      · rw [if_pos c1, if_pos c1]
    · simp only [if_neg hc, if_neg hc2] at e0 e1 e2 e3 e4 e5 e6 e7 e8 e9 e10 e11
      subst e0 e1 e2 e3 e4 e5 e6 e7 e8 e9 e10 e11
      exact ⟨⟨rfl, r1a, r1b⟩, rfl, r3, rfl, r5, rfl, rfl, r8, rfl, r10, rfl, rfl, rfl, r14, r15, _, rN, rM, rK⟩
theorem rr_node {le no li ti gr tik grk ik sp bo nr te9 pl nd lk st bq tj tv nv ml ij kt kl : Int} {te dg nb wy pa ra fa ft dy er pak rak fak ftk dyk erk pg dl es rb ck fb fu kc kr ke kd kf kg : Nat → Int} (h : RR le te no li dg nb wy pa ra fa ft dy er ti gr pak rak fak ftk dyk erk tik grk ik sp bo nr te9 pl nd lk st bq tj tv nv ml ij kt kl pg dl es rb ck fb fu kc kr ke kd kf kg) (z q : Int) : xNo pa ra fa ft dy er dg nb no sp z q = (if ¬ (0 ≤ z ∧ z ≤ nd - 1) then -100000002 else if 0 ≤ q ∧ q ≤ 8 then mNo ck dl es rb fb fu nd st z.toNat q else -100000003) := by
  obtain ⟨⟨r1, r1a, r1b⟩, r2, r3, r4, r5, r6, r7, r8, r9, r10, r11, r12, r13, r14, r15, P, rN, rM, rK⟩ := h
  subst r1 r2 r4 r6 r7 r9 r11 r12 r13
  obtain ⟨m1, m2, m3, m4, m5, m6, m7, m8, m9, m10, m11, m12, m13, m14, m15, m16, m17⟩ := id rM
  have hPe : P = mBn dl no := by funext i j; exact (m17 i j).symm
  subst hPe
  have hck5 : CKB ck 50000000 := fun k hk => by have := m9 k hk; omega
  have hck4 : CKB ck 40000000 := fun k hk => by have := m9 k hk; omega
  unfold xNo
  by_cases c1 : 0 ≤ z ∧ z < no
  · rw [if_neg (show ¬ ¬ (0 ≤ z ∧ z < no) by omega), if_neg (show ¬ ¬ (0 ≤ z ∧ z ≤ no - 1) by omega)]
    have hz : ((z.toNat : Nat) : Int) < no := by omega
    obtain ⟨e1, e2⟩ := ah_eq r5 rN hck5 m13 m14 m1 m2 hz
    have q1 := mOf_rng (a := 1) (v := z.toNat) hck5 m13 m14 r5 no.toNat
    have q0 := mOf_rng (a := 0) (v := z.toNat) hck5 m13 m14 r5 no.toNat
    have hb := mOf_both (v := z.toNat) r5 hck5 m13 m14
    rw [e1, e2, up_eq r8 hb (by omega) (by omega), dn_eq r8 hb (by omega) (by omega), pa_ck0 m1 r5 hz, m3 _ (by omega), m1.2 _ (by omega), rN.2.2.2.1 _ hz, m4 _ (by omega)]
    unfold mNo
    (repeat' split) <;> first | rfl | omega
  · rw [if_pos c1, if_pos (by omega)]
theorem rr_link {le no li ti gr tik grk ik sp bo nr te9 pl nd lk st bq tj tv nv ml ij kt kl : Int} {te dg nb wy pa ra fa ft dy er pak rak fak ftk dyk erk pg dl es rb ck fb fu kc kr ke kd kf kg : Nat → Int} (h : RR le te no li dg nb wy pa ra fa ft dy er ti gr pak rak fak ftk dyk erk tik grk ik sp bo nr te9 pl nd lk st bq tj tv nv ml ij kt kl pg dl es rb ck fb fu kc kr ke kd kf kg) (z w q : Int) : xLk pa dy er wy no z w q = (if ¬ mB dl nd z w = true then -100000002 else if 0 ≤ q ∧ q ≤ 3 then mLk ck dl es z.toNat w.toNat q else -100000003) := by
  obtain ⟨⟨r1, r1a, r1b⟩, r2, r3, r4, r5, r6, r7, r8, r9, r10, r11, r12, r13, r14, r15, P, rN, rM, rK⟩ := h
  subst r1 r2 r4 r6 r7 r9 r11 r12 r13
  obtain ⟨m1, m2, m3, m4, m5, m6, m7, m8, m9, m10, m11, m12, m13, m14, m15, m16, m17⟩ := id rM
  have hPe : P = mBn dl no := by funext i j; exact (m17 i j).symm
  subst hPe
  have hck5 : CKB ck 50000000 := fun k hk => by have := m9 k hk; omega
  have hck4 : CKB ck 40000000 := fun k hk => by have := m9 k hk; omega
  have hhl : (xHL wy no z w = true) ↔ (mB dl no z w = true) := by
    rw [xHL_iff, mB_iff]
    constructor
    · rintro ⟨g1, g2, g3⟩
      have hw := (rN.2.2.2.2.2.2.1.2.2.1 z.toNat w.toNat (by omega) (by omega)).mp (by rw [show z.toNat * 6 + w.toNat = (z * 6 + w).toNat by omega]; exact g3)
      have := mB_nat.mp hw
      exact ⟨by omega, by omega, by omega, by rw [show (6 * z + w).toNat = 6 * z.toNat + w.toNat by omega]; exact this.2.2.2⟩
    · rintro ⟨g1, g2, g3, g4⟩
      have hw : mBn dl no z.toNat w.toNat = true := mB_nat.mpr ⟨by omega, by omega, by omega, by rw [show 6 * z.toNat + w.toNat = (6 * z + w).toNat by omega]; exact g4⟩
      have := (rN.2.2.2.2.2.2.1.2.2.1 z.toNat w.toNat (by omega) (by omega)).mpr hw
      exact ⟨by omega, by omega, by rw [show (z * 6 + w).toNat = z.toNat * 6 + w.toNat by omega]; exact this⟩
  unfold xLk
  by_cases c1 : mB dl no z w = true
  · have hb := mB_iff.mp c1
    have hw : mBn dl no z.toNat w.toNat = true := mB_nat.mpr ⟨by omega, by omega, by omega, by rw [show 6 * z.toNat + w.toNat = (6 * z + w).toNat by omega]; exact hb.2.2.2⟩
    rw [if_neg (show ¬ ¬ xHL wy no z w = true from fun q => q (hhl.mpr c1)), if_neg (show ¬ ¬ mB dl no z w = true from fun q => q c1), show (z * 6 + w).toNat = z.toNat * 6 + w.toNat by omega, m2.1 _ _ hw, m2.2 _ (by omega), xG_mG r5 m14 m1 m2 hw, sk_eq r5 m1 (by omega) (by omega), show z.toNat * 6 + w.toNat = 6 * z.toNat + w.toNat by omega]
    unfold mLk
    (repeat' split) <;> first | rfl | omega
  · rw [if_pos (show ¬ xHL wy no z w = true from fun q => c1 (hhl.mp q)), if_pos c1]
theorem rr_hops {le no li ti gr tik grk ik sp bo nr te9 pl nd lk st bq tj tv nv ml ij kt kl : Int} {te dg nb wy pa ra fa ft dy er pak rak fak ftk dyk erk pg dl es rb ck fb fu kc kr ke kd kf kg : Nat → Int} (h : RR le te no li dg nb wy pa ra fa ft dy er ti gr pak rak fak ftk dyk erk tik grk ik sp bo nr te9 pl nd lk st bq tj tv nv ml ij kt kl pg dl es rb ck fb fu kc kr ke kd kf kg) (z w : Int) : (if (0 ≤ z ∧ z < no) ∧ (0 ≤ w ∧ w < no) then xHo wy z.toNat w.toNat else (-100000002 : Int)) = (if (0 ≤ z ∧ z ≤ nd - 1) ∧ (0 ≤ w ∧ w ≤ nd - 1) then mHs dl nd z.toNat w.toNat else -100000002) := by
  obtain ⟨⟨r1, r1a, r1b⟩, r2, r3, r4, r5, r6, r7, r8, r9, r10, r11, r12, r13, r14, r15, P, rN, rM, rK⟩ := h
  subst r1 r2 r4 r6 r7 r9 r11 r12 r13
  obtain ⟨m1, m2, m3, m4, m5, m6, m7, m8, m9, m10, m11, m12, m13, m14, m15, m16, m17⟩ := id rM
  have hPe : P = mBn dl no := by funext i j; exact (m17 i j).symm
  subst hPe
  have hck5 : CKB ck 50000000 := fun k hk => by have := m9 k hk; omega
  have hck4 : CKB ck 40000000 := fun k hk => by have := m9 k hk; omega
  by_cases c1 : (0 ≤ z ∧ z < no) ∧ (0 ≤ w ∧ w < no)
  · rw [if_pos c1, if_pos (by omega)]
    exact xHo_mHs r5 rN.2.2.2.2.2.2.1 (by omega) (by omega)
  · rw [if_neg c1, if_neg (by omega)]
theorem rr_skew {le no li ti gr tik grk ik sp bo nr te9 pl nd lk st bq tj tv nv ml ij kt kl : Int} {te dg nb wy pa ra fa ft dy er pak rak fak ftk dyk erk pg dl es rb ck fb fu kc kr ke kd kf kg : Nat → Int} (h : RR le te no li dg nb wy pa ra fa ft dy er ti gr pak rak fak ftk dyk erk tik grk ik sp bo nr te9 pl nd lk st bq tj tv nv ml ij kt kl pg dl es rb ck fb fu kc kr ke kd kf kg) (z : Int) : xSw pa wy no sp gr z = (if ¬ (0 ≤ z ∧ z ≤ 3) then -100000003 else if nd = 0 then -100000004 else mSn ck dl nd st ml z) := by
  obtain ⟨⟨r1, r1a, r1b⟩, r2, r3, r4, r5, r6, r7, r8, r9, r10, r11, r12, r13, r14, r15, P, rN, rM, rK⟩ := h
  subst r1 r2 r4 r6 r7 r9 r11 r12 r13
  obtain ⟨m1, m2, m3, m4, m5, m6, m7, m8, m9, m10, m11, m12, m13, m14, m15, m16, m17⟩ := id rM
  have hPe : P = mBn dl no := by funext i j; exact (m17 i j).symm
  subst hPe
  have hck5 : CKB ck 50000000 := fun k hk => by have := m9 k hk; omega
  have hck4 : CKB ck 40000000 := fun k hk => by have := m9 k hk; omega
  unfold xSw
  by_cases c1 : 0 ≤ z ∧ z ≤ 3
  · rw [if_neg (show ¬ ¬ (0 ≤ z ∧ z ≤ 3) by omega), if_neg (show ¬ ¬ (0 ≤ z ∧ z ≤ 3) by omega)]
    by_cases c2 : 0 < no
    · rw [if_neg (show ¬ ¬ 0 < no by omega), if_neg (show ¬ no = 0 by omega), lo_eq ⟨c2, r5.2⟩ rN hck5 m1, gl_eq r5 m1]
      unfold mSn mLv
      have hl := mLo_rng (dl := dl) hck5 r5
      rw [lvR_mFi r8 (show mLo ck dl no ≤ 1000000000 by omega), m6]
      (repeat' split) <;> first | rfl | omega
    · rw [if_pos (show ¬ 0 < no by omega), if_pos (show no = 0 by omega)]
  · rw [if_pos c1, if_pos c1]
theorem rr_spread {le no li ti gr tik grk ik sp bo nr te9 pl nd lk st bq tj tv nv ml ij kt kl : Int} {te dg nb wy pa ra fa ft dy er pak rak fak ftk dyk erk pg dl es rb ck fb fu kc kr ke kd kf kg : Nat → Int} (h : RR le te no li dg nb wy pa ra fa ft dy er ti gr pak rak fak ftk dyk erk tik grk ik sp bo nr te9 pl nd lk st bq tj tv nv ml ij kt kl pg dl es rb ck fb fu kc kr ke kd kf kg) (z : Int) : xSr pa wy no z = (if ¬ (1 ≤ z ∧ z ≤ 5) then -100000003 else if nd = 0 then -100000004 else mSp ck dl nd z) := by
  obtain ⟨⟨r1, r1a, r1b⟩, r2, r3, r4, r5, r6, r7, r8, r9, r10, r11, r12, r13, r14, r15, P, rN, rM, rK⟩ := h
  subst r1 r2 r4 r6 r7 r9 r11 r12 r13
  obtain ⟨m1, m2, m3, m4, m5, m6, m7, m8, m9, m10, m11, m12, m13, m14, m15, m16, m17⟩ := id rM
  have hPe : P = mBn dl no := by funext i j; exact (m17 i j).symm
  subst hPe
  have hck5 : CKB ck 50000000 := fun k hk => by have := m9 k hk; omega
  have hck4 : CKB ck 40000000 := fun k hk => by have := m9 k hk; omega
  unfold xSr
  rw [sp_eq r5 rN m1]
  (repeat' split) <;> first | rfl | omega | contradiction
theorem rr_worst {le no li ti gr tik grk ik sp bo nr te9 pl nd lk st bq tj tv nv ml ij kt kl : Int} {te dg nb wy pa ra fa ft dy er pak rak fak ftk dyk erk pg dl es rb ck fb fu kc kr ke kd kf kg : Nat → Int} (h : RR le te no li dg nb wy pa ra fa ft dy er ti gr pak rak fak ftk dyk erk tik grk ik sp bo nr te9 pl nd lk st bq tj tv nv ml ij kt kl pg dl es rb ck fb fu kc kr ke kd kf kg) (z q : Int) : (if ¬ ((1 ≤ z ∧ z ≤ 12) ∧ (0 ≤ q ∧ q ≤ 1)) then (-100000003 : Int) else if ¬ 0 < no then -100000004 else if q = 0 then (xW9 dy er dg nb ra wy no sp bo pa fa z.toNat).1 else ((xW9 dy er dg nb ra wy no sp bo pa fa z.toNat).2 : Int)) = (if ¬ ((1 ≤ z ∧ z ≤ 12) ∧ (0 ≤ q ∧ q ≤ 1)) then -100000003 else if nd = 0 then -100000004 else if q = 0 then (mW dl es rb nd st bq ck fb z.toNat).1 else ((mW dl es rb nd st bq ck fb z.toNat).2 : Int)) := by
  obtain ⟨⟨r1, r1a, r1b⟩, r2, r3, r4, r5, r6, r7, r8, r9, r10, r11, r12, r13, r14, r15, P, rN, rM, rK⟩ := h
  subst r1 r2 r4 r6 r7 r9 r11 r12 r13
  obtain ⟨m1, m2, m3, m4, m5, m6, m7, m8, m9, m10, m11, m12, m13, m14, m15, m16, m17⟩ := id rM
  have hPe : P = mBn dl no := by funext i j; exact (m17 i j).symm
  subst hPe
  have hck5 : CKB ck 50000000 := fun k hk => by have := m9 k hk; omega
  have hck4 : CKB ck 40000000 := fun k hk => by have := m9 k hk; omega
  by_cases c1 : (1 ≤ z ∧ z ≤ 12) ∧ (0 ≤ q ∧ q ≤ 1)
  · by_cases c2 : 0 < no
    · rw [if_neg (show ¬ ¬ ((1 ≤ z ∧ z ≤ 12) ∧ (0 ≤ q ∧ q ≤ 1)) by omega), if_neg (show ¬ ¬ ((1 ≤ z ∧ z ≤ 12) ∧ (0 ≤ q ∧ q ≤ 1)) by omega), if_neg (show ¬ ¬ 0 < no by omega), if_neg (show ¬ no = 0 by omega), w9_eq ⟨c2, r5.2⟩ r8 r10 rN hck4 m13 m14 m11 m1 m2 m3 m12 (by omega)]
    · rw [if_neg (show ¬ ¬ ((1 ≤ z ∧ z ≤ 12) ∧ (0 ≤ q ∧ q ≤ 1)) by omega), if_neg (show ¬ ¬ ((1 ≤ z ∧ z ≤ 12) ∧ (0 ≤ q ∧ q ≤ 1)) by omega), if_pos (show ¬ 0 < no by omega), if_pos (show no = 0 by omega)]
  · rw [if_pos c1, if_pos c1]
theorem sumF_ext {f g : Nat → Int} : ∀ n : Nat, (∀ k : Nat, k < n → f k = g k) → sumF f n = sumF g n
  | 0, _ => rfl
  | n + 1, h => by rw [sumF, sumF, sumF_ext n (fun k hk => h k (by omega)), h n (by omega)]
theorem rr_count {le no li ti gr tik grk ik sp bo nr te9 pl nd lk st bq tj tv nv ml ij kt kl : Int} {te dg nb wy pa ra fa ft dy er pak rak fak ftk dyk erk pg dl es rb ck fb fu kc kr ke kd kf kg : Nat → Int} (h : RR le te no li dg nb wy pa ra fa ft dy er ti gr pak rak fak ftk dyk erk tik grk ik sp bo nr te9 pl nd lk st bq tj tv nv ml ij kt kl pg dl es rb ck fb fu kc kr ke kd kf kg) (z : Int) : xCt fa no li le ti sp bo nr te9 z = mHm fb nd lk pl tj st bq nv tv z := by
  obtain ⟨⟨r1, r1a, r1b⟩, r2, r3, r4, r5, r6, r7, r8, r9, r10, r11, r12, r13, r14, r15, P, rN, rM, rK⟩ := h
  subst r1 r2 r4 r6 r7 r9 r11 r12 r13
  obtain ⟨m1, m2, m3, m4, m5, m6, m7, m8, m9, m10, m11, m12, m13, m14, m15, m16, m17⟩ := id rM
  have hPe : P = mBn dl no := by funext i j; exact (m17 i j).symm
  subst hPe
  have hck5 : CKB ck 50000000 := fun k hk => by have := m9 k hk; omega
  have hck4 : CKB ck 40000000 := fun k hk => by have := m9 k hk; omega
  unfold xCt mHm
  rw [m5, sumF_ext no.toNat (fun k hk => m1.2 k (by omega))]
theorem rr_image {le no li ti gr tik grk ik sp bo nr te9 pl nd lk st bq tj tv nv ml ij kt kl : Int} {te dg nb wy pa ra fa ft dy er pak rak fak ftk dyk erk pg dl es rb ck fb fu kc kr ke kd kf kg : Nat → Int} (h : RR le te no li dg nb wy pa ra fa ft dy er ti gr pak rak fak ftk dyk erk tik grk ik sp bo nr te9 pl nd lk st bq tj tv nv ml ij kt kl pg dl es rb ck fb fu kc kr ke kd kf kg) {ik2 : Int} {pak2 : Nat → Int} {rak2 : Nat → Int} {fak2 : Nat → Int} {ftk2 : Nat → Int} {dyk2 : Nat → Int} {erk2 : Nat → Int} {tik2 : Int} {grk2 : Int} {ij2 : Int} {kt2 : Int} {kl2 : Int} {kc2 : Nat → Int} {ke2 : Nat → Int} {kd2 : Nat → Int} {kr2 : Nat → Int} {kf2 : Nat → Int} {kg2 : Nat → Int} (e0 : ik2 = (if 0 < no then 1 else ik)) (e1 : pak2 = (if 0 < no then pa else pak)) (e2 : rak2 = (if 0 < no then ra else rak)) (e3 : fak2 = (if 0 < no then fa else fak)) (e4 : ftk2 = (if 0 < no then ft else ftk)) (e5 : dyk2 = (if 0 < no then dy else dyk)) (e6 : erk2 = (if 0 < no then er else erk)) (e7 : tik2 = (if 0 < no then ti else tik)) (e8 : grk2 = (if 0 < no then gr else grk)) (e9 : ij2 = (if nd = 0 then ij else 1)) (e10 : kt2 = (if nd = 0 then kt else tj)) (e11 : kl2 = (if nd = 0 then kl else ml)) (e12 : kc2 = (if nd = 0 then kc else ck)) (e13 : ke2 = (if nd = 0 then ke else es)) (e14 : kd2 = (if nd = 0 then kd else dl)) (e15 : kr2 = (if nd = 0 then kr else rb)) (e16 : kf2 = (if nd = 0 then kf else fb)) (e17 : kg2 = (if nd = 0 then kg else fu)) : (if 0 < no then ti else (-100000004 : Int)) = (if nd = 0 then -100000004 else tj) ∧ RR le te no li dg nb wy pa ra fa ft dy er ti gr pak2 rak2 fak2 ftk2 dyk2 erk2 tik2 grk2 ik2 sp bo nr te9 pl nd lk st bq tj tv nv ml ij2 kt2 kl2 pg dl es rb ck fb fu kc2 kr2 ke2 kd2 kf2 kg2 := by
  obtain ⟨⟨r1, r1a, r1b⟩, r2, r3, r4, r5, r6, r7, r8, r9, r10, r11, r12, r13, r14, r15, P, rN, rM, rK⟩ := h
  subst r1 r2 r4 r6 r7 r9 r11 r12 r13
  obtain ⟨m1, m2, m3, m4, m5, m6, m7, m8, m9, m10, m11, m12, m13, m14, m15, m16, m17⟩ := id rM
  have hPe : P = mBn dl no := by funext i j; exact (m17 i j).symm
  subst hPe
  have hck5 : CKB ck 50000000 := fun k hk => by have := m9 k hk; omega
  have hck4 : CKB ck 40000000 := fun k hk => by have := m9 k hk; omega
  by_cases c1 : 0 < no
  · have c2 : ¬ no = 0 := by omega
    simp only [if_pos c1, if_neg c2] at e0 e1 e2 e3 e4 e5 e6 e7 e8 e9 e10 e11 e12 e13 e14 e15 e16 e17 ⊢
    subst e0 e1 e2 e3 e4 e5 e6 e7 e8 e9 e10 e11 e12 e13 e14 e15 e16 e17
    exact ⟨m5, ⟨rfl, r1a, r1b⟩, rfl, r3, rfl, r5, rfl, rfl, r8, rfl, r10, rfl, rfl, rfl, Or.inr rfl, m11, _, rN, rM, fun _ => rM⟩
  · have c2 : no = 0 := by omega
    simp only [if_neg c1, if_pos c2] at e0 e1 e2 e3 e4 e5 e6 e7 e8 e9 e10 e11 e12 e13 e14 e15 e16 e17 ⊢
    subst e0 e1 e2 e3 e4 e5 e6 e7 e8 e9 e10 e11 e12 e13 e14 e15 e16 e17
    exact ⟨trivial, ⟨rfl, r1a, r1b⟩, rfl, r3, rfl, r5, rfl, rfl, r8, rfl, r10, rfl, rfl, rfl, r14, r15, _, rN, rM, rK⟩
theorem rr_restore {le no li ti gr tik grk ik sp bo nr te9 pl nd lk st bq tj tv nv ml ij kt kl : Int} {te dg nb wy pa ra fa ft dy er pak rak fak ftk dyk erk pg dl es rb ck fb fu kc kr ke kd kf kg : Nat → Int} (h : RR le te no li dg nb wy pa ra fa ft dy er ti gr pak rak fak ftk dyk erk tik grk ik sp bo nr te9 pl nd lk st bq tj tv nv ml ij kt kl pg dl es rb ck fb fu kc kr ke kd kf kg) {pa2 : Nat → Int} {ra2 : Nat → Int} {fa2 : Nat → Int} {ft2 : Nat → Int} {dy2 : Nat → Int} {er2 : Nat → Int} {ti2 : Int} {gr2 : Int} {tj2 : Int} {ml2 : Int} {ck2 : Nat → Int} {es2 : Nat → Int} {dl2 : Nat → Int} {rb2 : Nat → Int} {fb2 : Nat → Int} {fu2 : Nat → Int} (e0 : pa2 = (if ik = 0 then pa else pak)) (e1 : ra2 = (if ik = 0 then ra else rak)) (e2 : fa2 = (if ik = 0 then fa else fak)) (e3 : ft2 = (if ik = 0 then ft else ftk)) (e4 : dy2 = (if ik = 0 then dy else dyk)) (e5 : er2 = (if ik = 0 then er else erk)) (e6 : ti2 = (if ik = 0 then ti else tik)) (e7 : gr2 = (if ik = 0 then gr else grk)) (e8 : tj2 = (if ij = 0 then tj else kt)) (e9 : ml2 = (if ij = 0 then ml else kl)) (e10 : ck2 = (if ij = 0 then ck else kc)) (e11 : es2 = (if ij = 0 then es else ke)) (e12 : dl2 = (if ij = 0 then dl else kd)) (e13 : rb2 = (if ij = 0 then rb else kr)) (e14 : fb2 = (if ij = 0 then fb else kf)) (e15 : fu2 = (if ij = 0 then fu else kg)) : (if ik = 0 then (-100000004 : Int) else tik) = (if ij = 0 then -100000004 else kt) ∧ RR le te no li dg nb wy pa2 ra2 fa2 ft2 dy2 er2 ti2 gr2 pak rak fak ftk dyk erk tik grk ik sp bo nr te9 pl nd lk st bq tj2 tv nv ml2 ij kt kl pg dl2 es2 rb2 ck2 fb2 fu2 kc kr ke kd kf kg := by
  obtain ⟨⟨r1, r1a, r1b⟩, r2, r3, r4, r5, r6, r7, r8, r9, r10, r11, r12, r13, r14, r15, P, rN, rM, rK⟩ := h
  subst r1 r2 r4 r6 r7 r9 r11 r12 r13
  by_cases c1 : ik = 0
  · simp only [if_pos c1] at e0 e1 e2 e3 e4 e5 e6 e7 e8 e9 e10 e11 e12 e13 e14 e15 ⊢
    subst e0 e1 e2 e3 e4 e5 e6 e7 e8 e9 e10 e11 e12 e13 e14 e15
    exact ⟨trivial, ⟨rfl, r1a, r1b⟩, rfl, r3, rfl, r5, rfl, rfl, r8, rfl, r10, rfl, rfl, rfl, r14, r15, P, rN, rM, rK⟩
  · simp only [if_neg c1] at e0 e1 e2 e3 e4 e5 e6 e7 e8 e9 e10 e11 e12 e13 e14 e15 ⊢
    subst e0 e1 e2 e3 e4 e5 e6 e7 e8 e9 e10 e11 e12 e13 e14 e15
    have hk := rK (by omega)
    exact ⟨hk.2.2.2.2.1, ⟨rfl, r1a, r1b⟩, rfl, r3, rfl, r5, rfl, rfl, r8, rfl, r10, rfl, rfl, rfl, r14, r15, P, rN, hk, rK⟩
