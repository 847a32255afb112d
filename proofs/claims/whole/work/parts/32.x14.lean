theorem aj_link {t : Nat → Int} {m i : Nat} (h : lkOK t m) (hi : i < m) : aj t m (tD t (2 + 4 * i)).toNat (tD t (3 + 4 * i)).toNat = true := by
  obtain ⟨h2, h3, -⟩ := h i hi
  cases e : aj t m (tD t (2 + 4 * i)).toNat (tD t (3 + 4 * i)).toNat with
  | true => rfl
  | false =>
    have e2 : nwL t ((tD t (2 + 4 * i)).toNat : Int) ((tD t (3 + 4 * i)).toNat : Int) m = true := by
      unfold aj at e
      simpa using e
    have := nwL_le (i := i) e2 hi
    rw [smL, decide_eq_false_iff_not] at this
    exfalso
    exact this (Or.inl ⟨by omega, by omega⟩)
theorem xW9_bd {dy er dg nb ra wy pa fa : Nat → Int} {no sp bq : Int} (n : Nat) (hn : n ≤ 12) (hpa : ∀ k : Nat, k < 24 → 0 ≤ pa k ∧ pa k ≤ 40000000) (hfa : ∀ k : Nat, k < 6 → fa k = 0 ∨ fa k = 1) (hra : ∀ k : Nat, k < 6 → 0 ≤ ra k ∧ ra k ≤ 110) (hbq : 1 ≤ bq ∧ bq ≤ 60) (hno : 0 ≤ no ∧ no ≤ 6) (hlk : ∃ v w : Nat, v < w ∧ (w : Int) < no ∧ wy (v * 6 + w) = 1) : (0 ≤ (xW9 dy er dg nb ra wy no sp bq pa fa n).1 ∧ (xW9 dy er dg nb ra wy no sp bq pa fa n).1 < 100000000) ∧ (0 ≤ ((xW9 dy er dg nb ra wy no sp bq pa fa n).2 : Int) ∧ ((xW9 dy er dg nb ra wy no sp bq pa fa n).2 : Int) < 64) := by
  have hl : ∀ b : Nat, 0 ≤ xWl dy er dg nb ra wy no sp bq pa fa n b ∧ xWl dy er dg nb ra wy no sp bq pa fa n b ≤ 50000000 := by
    intro b
    have hb := xIS_bd (dy := dy) (er := er) (dg := dg) (nb := nb) (no := no) (sp := sp) hpa hfa (rW_bd (nd := no) (b := b) hra) hbq n
    have hc : ∀ k : Nat, k < 24 → 0 ≤ (xIS dy er dg nb (rW ra no b) no sp bq pa fa n).1 k ∧ (xIS dy er dg nb (rW ra no b) no sp bq pa fa n).1 k ≤ 50000000 := fun k hk => by have := hb.1 k hk; omega
    exact ⟨xSp_pos hc hno hlk, (xSp_rng hc hno).2⟩
  have hs : ∀ b : Nat, b ≤ 64 → (0 < b → 0 ≤ (xWo dy er dg nb ra wy no sp bq pa fa n b).1) ∧ -1 ≤ (xWo dy er dg nb ra wy no sp bq pa fa n b).1 ∧ (xWo dy er dg nb ra wy no sp bq pa fa n b).1 ≤ 50000000 ∧ (xWo dy er dg nb ra wy no sp bq pa fa n b).2 < 64 := by
    intro b
    induction b with
    | zero => intro _; exact ⟨fun q => absurd q (Nat.lt_irrefl 0), by show (-1 : Int) ≤ -1; omega, by show (-1 : Int) ≤ 50000000; omega, by show 0 < 64; omega⟩
    | succ b ih =>
      intro hb
      obtain ⟨i1, i2, i3, i4⟩ := ih (by omega)
      have := hl b
      rw [xWo]
      split
      · exact ⟨fun _ => this.1, by omega, this.2, by show b < 64; omega⟩
      · rename_i hc
        exact ⟨fun _ => by omega, i2, i3, i4⟩
  have hp : 0 < 2 ^ no.toNat := Nat.pow_pos (by omega)
  have hle : 2 ^ no.toNat ≤ 64 := Nat.le_trans (Nat.pow_le_pow_right (by omega) (show no.toNat ≤ 6 by omega)) (by decide)
  obtain ⟨i1, i2, i3, i4⟩ := hs (2 ^ no.toNat) hle
  have := i1 hp
  unfold xW9
  omega
