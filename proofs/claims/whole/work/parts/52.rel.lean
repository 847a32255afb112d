-- a net that is read: what the class and the reference then have
theorem aj_ex {t : Nat → Int} {v w : Nat} : ∀ m : Nat, aj t m v w = true → ∃ i : Nat, i < m ∧ smL t i v w = true
  | 0, h => by cases h
  | m + 1, h => by
    rw [aj_s, Bool.or_eq_true] at h
    rcases h with h | h
    · obtain ⟨i, h1, h2⟩ := aj_ex m h
      exact ⟨i, by omega, h2⟩
    · exact ⟨m, by omega, h⟩
theorem aj_lt {t : Nat → Int} {m v w : Nat} (hl : lkOK t m) (h : aj t m v w = true) : (v : Int) < tD t 0 ∧ (w : Int) < tD t 0 := by
  obtain ⟨i, h1, h2⟩ := aj_ex m h
  obtain ⟨k2, k3, -⟩ := hl i h1
  rw [smL, decide_eq_true_iff] at h2
  omega
theorem nwL_comm (t : Nat → Int) (a b : Int) : ∀ m : Nat, nwL t a b m = nwL t b a m
  | 0 => rfl
  | m + 1 => by
    rw [nwL, nwL, nwL_comm t a b m]
    congr 2
    rw [smL, smL]
    exact decide_eq_decide.mpr ⟨fun q => q.elim (fun r => Or.inr ⟨r.1, r.2⟩) (fun r => Or.inl ⟨r.1, r.2⟩), fun q => q.elim (fun r => Or.inr ⟨r.1, r.2⟩) (fun r => Or.inl ⟨r.1, r.2⟩)⟩
theorem aj_mBn {t : Nat → Int} {m : Nat} (hl : lkOK t m) (h0 : 2 ≤ tD t 0 ∧ tD t 0 ≤ 6) (v w : Nat) : mBn (lkM t m) (tD t 0) v w = aj t m v w := by
  have key : mBn (lkM t m) (tD t 0) v w = true ↔ aj t m v w = true := by
    constructor
    · intro h
      obtain ⟨h1, h2, h3, h4⟩ := mB_nat.mp h
      have := (lkM_look h0.2 m hl v w (by omega) (by omega)).1
      unfold aj
      cases e : nwL t v w m with
      | true => exact absurd (this.mpr e) h4
      | false => rfl
    · intro h
      have hlt := aj_lt hl h
      have := (lkM_look h0.2 m hl v w (by omega) (by omega)).1
      refine mB_nat.mpr ⟨hlt.1, hlt.2, fun e => ?_, fun e => ?_⟩
      · subst e
        rw [aj_irr m hl v] at h
        cases h
      · have h2 := this.mp e
        unfold aj at h
        rw [h2] at h
        cases h
  cases e1 : mBn (lkM t m) (tD t 0) v w with
  | true => exact (key.mp e1).symm
  | false =>
    cases e2 : aj t m v w with
    | true => exact absurd (key.mpr e2) (by rw [e1]; decide)
    | false => rfl
theorem cnt_cut {Q : Nat → Bool} {n : Nat} (h : ∀ w : Nat, n ≤ w → Q w = false) : ∀ k : Nat, cnt Q (n + k) = cnt Q n
  | 0 => rfl
  | k + 1 => by
    show cnt Q ((n + k) + 1) = _
    rw [cnt, cnt_cut h k, h (n + k) (by omega)]
    simp
theorem NI_net {t nb : Nat → Int} {m : Nat} (hl : lkOK t m) (h0 : 2 ≤ tD t 0 ∧ tD t 0 ≤ 6) (hm : 0 < m) : NI (tD t 0) (mBn (lkM t m) (tD t 0)) (jS t nb m).1 (jS t nb m).2.1 (fwO (jS t nb m).2.2 (tD t 0).toNat (tD t 0).toNat) := by
  have hP : mBn (lkM t m) (tD t 0) = aj t m := by funext v w; exact aj_mBn hl h0 v w
  rw [hP]
  have hj := jOK_all (nb := nb) h0.2 m hl
  have hwi := wInv_all (P := aj t m) (n := (tD t 0).toNat) (by omega) (jOK_w hj) (wInv_0 (by omega) (aj_irr m hl) hj.2.2.2) (tD t 0).toNat (Nat.le_refl _)
  refine ⟨fun v hv => jOK_dg hj hl hv, fun v k hv hk => ?_, fwO_ok (jOK_w hj) (by omega) _ (by omega), fun v hv => ?_, fun v k hv hk => ?_, fun v w hp => ?_, hwi, fun _ => ?_, fun v w hp => ?_⟩
  · obtain ⟨w, g1, g2, g3⟩ := hj.2.1 v k hv hk
    omega
  · rw [hj.1 v (by omega)]
    have := cnt_cut (Q := aj t m v) (n := (tD t 0).toNat) (fun w hw => by
      cases e : aj t m v w with
      | true => have := aj_lt hl e; omega
      | false => rfl) (6 - (tD t 0).toNat)
    rw [show (tD t 0).toNat + (6 - (tD t 0).toNat) = 6 by omega] at this
    exact this
  · obtain ⟨w, g1, g2, g3⟩ := hj.2.1 v k (by omega) hk
    exact ⟨w, g2, g3⟩
  · have := aj_lt hl hp
    exact hj.2.2.1 v w (by omega) (by omega) hp
  · have hk := aj_link hl hm
    obtain ⟨k2, k3, k4, -⟩ := hl 0 hm
    rcases Nat.lt_or_ge (tD t (2 + 4 * 0)).toNat (tD t (3 + 4 * 0)).toNat with q | q
    · exact ⟨_, _, q, by omega, hk⟩
    · refine ⟨(tD t (3 + 4 * 0)).toNat, (tD t (2 + 4 * 0)).toNat, by omega, by omega, ?_⟩
      unfold aj at hk ⊢
      rw [nwL_comm]
      exact hk
  · unfold aj at hp ⊢
    rw [nwL_comm]
    exact hp
theorem lkM_sym {t : Nat → Int} (h0 : tD t 0 ≤ 6) : ∀ m : Nat, lkOK t m → ∀ i j : Nat, i < 6 → j < 6 → lkM t m (6 * i + j) = lkM t m (6 * j + i)
  | 0, _, _, _, _, _ => rfl
  | m + 1, hl, i, j, hi, hj => by
    have ih := lkM_sym h0 m (fun k hk => hl k (by omega)) i j hi hj
    obtain ⟨k2, k3, k4, -⟩ := hl m (by omega)
    rw [lkM]
    simp only [va_up]
    (repeat' split) <;> first | rfl | exact ih | omega
theorem dS_lkM {t dy : Nat → Int} : ∀ m : Nat, lkOK t m → ∀ k : Nat, lkM t m k ≠ -100000001 → dS t dy m k = lkM t m k
  | 0, _, k, h => absurd rfl h
  | m + 1, hl, k, h => by
    have ih := dS_lkM (dy := dy) m (fun i hi => hl i (by omega)) k
    obtain ⟨k2, k3, -⟩ := hl m (by omega)
    rw [lkM] at h ⊢
    rw [dS, show (tD t (2 + 4 * m)).toNat * 6 + (tD t (3 + 4 * m)).toNat = (6 * tD t (2 + 4 * m) + tD t (3 + 4 * m)).toNat by omega, show (tD t (3 + 4 * m)).toNat * 6 + (tD t (2 + 4 * m)).toNat = (6 * tD t (3 + 4 * m) + tD t (2 + 4 * m)).toNat by omega]
    simp only [va_up] at h ⊢
    split
    · rfl
    · rename_i h1
      rw [if_neg h1] at h
      split
      · rfl
      · rename_i h2
        rw [if_neg h2] at h
        exact ih h
theorem dS_bd {t dy : Nat → Int} (hdy : ∀ k : Nat, k < 36 → 0 ≤ dy k ∧ dy k ≤ 3) : ∀ m : Nat, lkOK t m → ∀ k : Nat, k < 36 → 0 ≤ dS t dy m k ∧ dS t dy m k ≤ 3
  | 0, _ => hdy
  | m + 1, hl => by
    intro k hk
    have ih := dS_bd hdy m (fun i hi => hl i (by omega)) k hk
    obtain ⟨-, -, -, k4, -⟩ := hl m (by omega)
    rw [dS]
    simp only [va_up]
    split
    · exact k4
    · split
      · exact k4
      · exact ih
theorem lkM_bd {t : Nat → Int} (h0 : tD t 0 ≤ 6) {m : Nat} (hl : lkOK t m) : DLB (lkM t m) := by
  intro k hk
  have := (lkM_look h0 m hl (k / 6) (k % 6) (by omega) (by omega)).2
  rw [show 6 * (k / 6) + k % 6 = k by omega] at this
  exact this
-- ===== the relation =====
def RM (nd : Int) (P : Nat → Nat → Bool) (pa ra fa ft dy er : Nat → Int) (ti gr : Int) (ck rb fb fu dl es : Nat → Int) (tj ml : Int) : Prop :=
  MR nd pa fa ck fb ∧ DR nd dl dy er es ∧ (∀ k : Nat, k < 6 → ra k = rb k) ∧ (∀ k : Nat, k < 6 → ft k = fu k) ∧ ti = tj ∧ gr = ml ∧ (0 ≤ tj ∧ tj ≤ 9000) ∧ (0 ≤ ml ∧ ml ≤ 50000000) ∧ CKB ck (1000000 + 170 * tj) ∧ CKB pa (1000000 + 170 * tj) ∧ F01 fb ∧ (∀ k : Nat, k < 6 → 0 ≤ rb k ∧ rb k ≤ 110) ∧ ERB es ∧ DLB dl ∧ (∀ i j : Nat, i < 6 → j < 6 → dl (6 * i + j) = dl (6 * j + i)) ∧ (∀ k : Nat, k < 36 → 0 ≤ dy k ∧ dy k ≤ 3) ∧ (∀ i j : Nat, mBn dl nd i j = P i j)
def RR (le : Int) (te : Nat → Int) (no li : Int) (dg nb wy pa ra fa ft dy er : Nat → Int) (ti gr : Int) (pak rak fak ftk dyk erk : Nat → Int) (tik grk ik sp bo nr te9 : Int) (pl nd lk st bq tj tv nv ml ij kt kl : Int) (pg dl es rb ck fb fu kc kr ke kd kf kg : Nat → Int) : Prop :=
  (le = pl ∧ 0 ≤ pl ∧ pl ≤ 61) ∧ te = pg ∧ (∀ k : Nat, k < 61 → 0 ≤ pg k ∧ pg k ≤ 126) ∧ no = nd ∧ (0 ≤ nd ∧ nd ≤ 6) ∧ li = lk ∧ sp = st ∧ (1 ≤ st ∧ st ≤ 500) ∧ bo = bq ∧ (1 ≤ bq ∧ bq ≤ 60) ∧ nr = nv ∧ te9 = tv ∧ ik = ij ∧ (ij = 0 ∨ ij = 1) ∧ F01 kf ∧ ∃ P : Nat → Nat → Bool, NI nd P dg nb wy ∧ RM nd P pa ra fa ft dy er ti gr ck rb fb fu dl es tj ml ∧ (ij = 1 → RM nd P pak rak fak ftk dyk erk tik grk kc kr kf kg kd ke kt kl)
/-- at first: no net -/
theorem NI_0 : NI 0 (mBn (fun _ => 0) 0) (fun _ => 0) (fun _ => 0) (fun _ => 0) := by
  refine ⟨fun v _ => ⟨by dsimp only; omega, by dsimp only; omega⟩, fun v k _ _ => ⟨by dsimp only; omega, by dsimp only; omega⟩, fun k _ => ⟨by dsimp only; omega, by dsimp only; omega⟩, fun v h => absurd h (by omega), fun v k h => absurd h (by omega), fun v w h => ?_, ?_, fun h => absurd h (by omega), fun v w h => ?_⟩
  · have := mB_nat.mp h; omega
  · refine ⟨fun v h => absurd h (by omega), fun v w h => absurd h (by omega), fun v w h => absurd h (by omega), fun v w h => absurd h (by omega), fun k v w h => absurd h (by omega)⟩
  · have := mB_nat.mp h; omega
theorem RM_0 : RM 0 (mBn (fun _ => 0) 0) (fun _ => 0) (fun _ => 0) (fun _ => 0) (fun _ => 0) (fun _ => 0) (fun _ => 0) 0 0 (fun _ => 0) (fun _ => 0) (fun _ => 0) (fun _ => 0) (fun _ => 0) (fun _ => 0) 0 0 := by
  refine ⟨⟨fun k _ _ => rfl, fun k _ => rfl⟩, ⟨fun i j _ => rfl, fun k _ => rfl⟩, fun k _ => rfl, fun k _ => rfl, rfl, rfl, by omega, by omega, fun k _ => ⟨by dsimp only; omega, by dsimp only; omega⟩, fun k _ => ⟨by dsimp only; omega, by dsimp only; omega⟩, fun k _ => Or.inl rfl, fun k _ => ⟨by dsimp only; omega, by dsimp only; omega⟩, fun k _ => ⟨by dsimp only; omega, by dsimp only; omega⟩, fun k _ => Or.inr ⟨by dsimp only; omega, by dsimp only; omega⟩, fun i j _ _ => rfl, fun k _ => ⟨by dsimp only; omega, by dsimp only; omega⟩, fun i j => rfl⟩
