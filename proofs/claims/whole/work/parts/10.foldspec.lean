-- folds: the greatest of those that are asked for
def aD (x y : Int) : Int := if x - y < 0 then -(x - y) else x - y
theorem aD_bd {x y b : Int} (hx : 0 ≤ x ∧ x ≤ b) (hy : 0 ≤ y ∧ y ≤ b) : 0 ≤ aD x y ∧ aD x y ≤ b := by unfold aD; split <;> omega
theorem aD_comm (x y : Int) : aD x y = aD y x := by unfold aD; (repeat' split) <;> omega
def fmx (P : Nat → Bool) (f : Nat → Int) (a : Int) : Nat → Int
  | 0 => a
  | w + 1 => if P w = true ∧ fmx P f a w < f w then f w else fmx P f a w
theorem fmx_yes {P : Nat → Bool} {f : Nat → Int} {a : Int} {w : Nat} (h : P w = true) (h2 : fmx P f a w < f w) : fmx P f a (w + 1) = f w := by rw [fmx, if_pos ⟨h, h2⟩]
theorem fmx_no {P : Nat → Bool} {f : Nat → Int} {a : Int} {w : Nat} (h : ¬ (P w = true ∧ fmx P f a w < f w)) : fmx P f a (w + 1) = fmx P f a w := by rw [fmx, if_neg h]
theorem fmx_ge (P : Nat → Bool) (f : Nat → Int) (a : Int) : ∀ n : Nat, a ≤ fmx P f a n
  | 0 => Int.le_refl a
  | n + 1 => by
    have ih := fmx_ge P f a n
    rw [fmx]
    split <;> omega
theorem fmx_le {P : Nat → Bool} {f : Nat → Int} {a b : Int} (ha : a ≤ b) : ∀ n : Nat, (∀ w : Nat, w < n → f w ≤ b) → fmx P f a n ≤ b
  | 0, _ => ha
  | n + 1, h => by
    have ih := fmx_le (P := P) ha n (fun w hw => h w (by omega))
    have h1 := h n (by omega)
    rw [fmx]
    split <;> omega
theorem fmx_up {P : Nat → Bool} {f : Nat → Int} {a : Int} : ∀ (n w : Nat), w < n → P w = true → f w ≤ fmx P f a n
  | 0, w, h, _ => absurd h (Nat.not_lt_zero w)
  | n + 1, w, h, hp => by
    by_cases e : w = n
    · subst e
      by_cases h2 : fmx P f a w < f w
      · rw [fmx_yes hp h2]; exact Int.le_refl _
      · rw [fmx_no (fun q => h2 q.2)]; omega
    · have ih := fmx_up (f := f) (a := a) n w (by omega) hp
      rw [fmx]
      split <;> omega
theorem fmx_in {P : Nat → Bool} {f : Nat → Int} {a : Int} : ∀ n : Nat, fmx P f a n = a ∨ ∃ w, w < n ∧ P w = true ∧ f w = fmx P f a n
  | 0 => Or.inl rfl
  | n + 1 => by
    by_cases h : P n = true ∧ fmx P f a n < f n
    · rw [fmx_yes h.1 h.2]
      exact Or.inr ⟨n, by omega, h.1, rfl⟩
    · rw [fmx_no h]
      rcases fmx_in (P := P) (f := f) (a := a) n with q | ⟨w, h1, h2, h3⟩
      · exact Or.inl q
      · exact Or.inr ⟨w, by omega, h2, h3⟩
def dfm (P : Nat → Nat → Bool) (f : Nat → Nat → Int) (a : Int) : Nat → Int
  | 0 => a
  | v + 1 => fmx (P v) (f v) (dfm P f a v) v
theorem dfm_ge (P : Nat → Nat → Bool) (f : Nat → Nat → Int) (a : Int) : ∀ n : Nat, a ≤ dfm P f a n
  | 0 => Int.le_refl a
  | n + 1 => Int.le_trans (dfm_ge P f a n) (fmx_ge _ _ _ n)
theorem dfm_le {P : Nat → Nat → Bool} {f : Nat → Nat → Int} {a b : Int} (ha : a ≤ b) : ∀ n : Nat, (∀ v w : Nat, v < n → w < n → f v w ≤ b) → dfm P f a n ≤ b
  | 0, _ => ha
  | n + 1, h => fmx_le (dfm_le ha n (fun v w hv hw => h v w (by omega) (by omega))) n (fun w hw => h n w (by omega) (by omega))
theorem dfm_up {P : Nat → Nat → Bool} {f : Nat → Nat → Int} {a : Int} : ∀ (n v w : Nat), v < n → w < v → P v w = true → f v w ≤ dfm P f a n
  | 0, v, _, h, _, _ => absurd h (Nat.not_lt_zero v)
  | n + 1, v, w, h, hw, hp => by
    by_cases e : v = n
    · subst e; exact fmx_up v w hw hp
    · exact Int.le_trans (dfm_up n v w (by omega) hw hp) (fmx_ge _ _ _ n)
theorem dfm_in {P : Nat → Nat → Bool} {f : Nat → Nat → Int} {a : Int} : ∀ n : Nat, dfm P f a n = a ∨ ∃ v w, v < n ∧ w < v ∧ P v w = true ∧ f v w = dfm P f a n
  | 0 => Or.inl rfl
  | n + 1 => by
    rcases fmx_in (P := P n) (f := f n) (a := dfm P f a n) n with q | ⟨w, h1, h2, h3⟩
    · rcases dfm_in (P := P) (f := f) (a := a) n with q2 | ⟨v, w, g1, g2, g3, g4⟩
      · exact Or.inl (q.trans q2)
      · exact Or.inr ⟨v, w, by omega, g2, g3, g4.trans q.symm⟩
    · exact Or.inr ⟨n, w, by omega, h1, h2, h3⟩
def mSk (ck : Nat → Int) (i j : Nat) : Int := aD (ck (4 * i)) (ck (4 * j))
theorem mSk_rng {ck : Nat → Int} (hck : ∀ k : Nat, k < 24 → 0 ≤ ck k ∧ ck k ≤ 50000000) {i j : Nat} (hi : i < 6) (hj : j < 6) : 0 ≤ mSk ck i j ∧ mSk ck i j ≤ 50000000 := aD_bd (hck _ (by omega)) (hck _ (by omega))
def mBn (dl : Nat → Int) (nd : Int) (i j : Nat) : Bool := mB dl nd i j
def mLo (ck dl : Nat → Int) (nd : Int) : Int := dfm (mBn dl nd) (mSk ck) 0 nd.toNat
def mTt (_ _ : Nat) : Bool := true
def mGl (ck : Nat → Int) (nd : Int) : Int := dfm mTt (mSk ck) 0 nd.toNat
theorem mLo_rng {ck dl : Nat → Int} {nd : Int} (hck : ∀ k : Nat, k < 24 → 0 ≤ ck k ∧ ck k ≤ 50000000) (hnd : 0 ≤ nd ∧ nd ≤ 6) : 0 ≤ mLo ck dl nd ∧ mLo ck dl nd ≤ 50000000 := ⟨dfm_ge _ _ _ _, dfm_le (by omega) _ (fun v w hv hw => (mSk_rng hck (by omega) (by omega)).2)⟩
theorem mGl_rng {ck : Nat → Int} {nd : Int} (hck : ∀ k : Nat, k < 24 → 0 ≤ ck k ∧ ck k ≤ 50000000) (hnd : 0 ≤ nd ∧ nd ≤ 6) : 0 ≤ mGl ck nd ∧ mGl ck nd ≤ 50000000 := ⟨dfm_ge _ _ _ _, dfm_le (by omega) _ (fun v w hv hw => (mSk_rng hck (by omega) (by omega)).2)⟩
def mLv (ck dl : Nat → Int) (nd st : Int) : Int := (mFi st (mLo ck dl nd) 1 - 1) / 2
def mSn (ck dl : Nat → Int) (nd st ml z : Int) : Int := if z = 0 then mLo ck dl nd else if z = 1 then mGl ck nd else if z = 2 then mLv ck dl nd st else ml
def cnt (P : Nat → Bool) : Nat → Int
  | 0 => 0
  | n + 1 => cnt P n + (if P n = true then 1 else 0)
theorem cnt_bd (P : Nat → Bool) : ∀ n : Nat, 0 ≤ cnt P n ∧ cnt P n ≤ n
  | 0 => by simp [cnt]
  | n + 1 => by
    have := cnt_bd P n
    rw [cnt]
    split <;> omega
def sumF (f : Nat → Int) : Nat → Int
  | 0 => 0
  | n + 1 => sumF f n + f n
def mNo (ck dl er ra fa ft : Nat → Int) (nd st : Int) (v : Nat) (q : Int) : Int := if q = 0 then ck (4 * v) else if q = 1 then ra v else if q = 2 then fa v else if q = 3 then cnt (mBn dl nd v) nd.toNat else if q = 4 then mOf ck dl er nd 1 v nd.toNat else if q = 5 then mOf ck dl er nd 0 v nd.toNat else if q = 6 then mUp st (mOf ck dl er nd 1 v nd.toNat) (mOf ck dl er nd 0 v nd.toNat) else if q = 7 then mDn st (mOf ck dl er nd 1 v nd.toNat) (mOf ck dl er nd 0 v nd.toNat) else ft v
def mLk (ck dl er : Nat → Int) (i j : Nat) (q : Int) : Int := if q = 0 then dl (6 * i + j) else if q = 1 then er (6 * i + j) else if q = 2 then mG ck dl er i j else mSk ck i j
def mHm (fa : Nat → Int) (nd lk pl ti st bo nr te z : Int) : Int := if z = 0 then nd else if z = 1 then lk else if z = 2 then pl else if z = 3 then ti else if z = 4 then st else if z = 5 then bo else if z = 6 then sumF fa nd.toNat else if z = 7 then nr else if z = 8 then te else -100000003
-- ways: those that come in by one link more
def mRe (nbr : Nat → Nat → Bool) (mt : Nat) : Nat → Nat
  | 0 => mt
  | k + 1 => if mt.testBit (k / 6) = true ∧ nbr (k / 6) (k % 6) = true then mRe nbr mt k ||| 2 ^ (k % 6) else mRe nbr mt k
def mHo (nbr : Nat → Nat → Bool) (w : Nat) : Nat → Nat → Nat → Int
  | 0, _, _ => -100000001
  | fl + 1, mt, hp => if mt.testBit w = true then (hp : Int) else if mRe nbr mt 36 = mt then -100000001 else mHo nbr w fl (mRe nbr mt 36) (hp + 1)
def mHs (dl : Nat → Int) (nd : Int) (v w : Nat) : Int := mHo (mBn dl nd) w 64 (2 ^ v) 0
theorem tb_iff (m w : Nat) : m.testBit w = true ↔ m / 2 ^ w % 2 = 1 := by rw [Nat.testBit_eq_decide_div_mod_eq, decide_eq_true_iff]
theorem mRe_ge (nbr : Nat → Nat → Bool) (mt : Nat) : ∀ k : Nat, mt ≤ mRe nbr mt k
  | 0 => Nat.le_refl mt
  | k + 1 => by
    have ih := mRe_ge nbr mt k
    rw [mRe]
    split
    · exact Nat.le_trans ih Nat.left_le_or
    · exact ih
theorem p6_lt {j : Nat} (h : j < 6) : 2 ^ j < 64 := Nat.pow_lt_pow_right (a := 2) (n := 6) (by omega) h
theorem or6_lt {a b : Nat} (ha : a < 64) (hb : b < 64) : a ||| b < 64 := Nat.or_lt_two_pow (n := 6) ha hb
theorem mRe_lt (nbr : Nat → Nat → Bool) {mt : Nat} (h : mt < 64) : ∀ k : Nat, mRe nbr mt k < 64
  | 0 => h
  | k + 1 => by
    have ih := mRe_lt nbr h k
    rw [mRe]
    split
    · exact or6_lt ih (p6_lt (Nat.mod_lt _ (by omega)))
    · exact ih
theorem mHo_rng (nbr : Nat → Nat → Bool) (w : Nat) : ∀ (fl mt hp : Nat), mHo nbr w fl mt hp = -100000001 ∨ (0 ≤ mHo nbr w fl mt hp ∧ mHo nbr w fl mt hp ≤ hp + fl)
  | 0, _, _ => Or.inl rfl
  | fl + 1, mt, hp => by
    rw [mHo]
    split
    · right; omega
    · split
      · exact Or.inl rfl
      · rcases mHo_rng nbr w fl (mRe nbr mt 36) (hp + 1) with h | h
        · exact Or.inl h
        · right; omega
theorem mHs_rng (dl : Nat → Int) (nd : Int) (v w : Nat) : -100000001 ≤ mHs dl nd v w ∧ mHs dl nd v w ≤ 64 := by
  have := mHo_rng (mBn dl nd) w 64 (2 ^ v) 0
  unfold mHs
  omega
def mHp (dl : Nat → Int) (nd z : Int) (v w : Nat) : Bool := decide (mHs dl nd v w = z)
def mSp (ck dl : Nat → Int) (nd z : Int) : Int := dfm (mHp dl nd z) (mSk ck) (-100000001) nd.toNat
