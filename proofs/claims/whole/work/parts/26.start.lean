def a24W (cI cZ : ClassId) (a : Nat) (g : Nat → Int) : va_W := [(a, aI cI 24 g)]
def a6W (cI cZ : ClassId) (a : Nat) (g : Nat → Int) : va_W := [(a, aI cI 6 g)]
def a36W (cI cZ : ClassId) (a : Nat) (g : Nat → Int) : va_W := [(a, aI cI 36 g)]
def rm_J7_fill_53178_s24 : Room := ({ frames := 0, cells := 0, slots := 0, locals := 0 } : Room)
set_option maxHeartbeats 4000000 in
set_option maxRecDepth 100000 in
theorem c_J7_fill_53178_s24 (l : Launch) (D : va_G) (cI cZ : ClassId) (a : Nat) (g : Nat → Int) (z : Int)  : kWR l yJ7_fill_53178 wsJ7_fill_53178 rm_J7_fill_53178_s24 D cI cZ [.ref a, .int (iI z)] (a24W cI cZ a g) (fun u : Unit => none) (fun u : Unit => True) (fun u : Unit => a24W cI cZ a (fun _ => z)) 0 0 := by
  refine kx_WRv (cc := cJ7_fill_53178) (maxL := 4) (by decide) rfl (Nat.le_of_ble_eq_true rfl) ?_
  intro pr en s mi args below meth co Q A hx hb hml hown hts hK hin hA hP hD hS hret ls hl
  have hown : s.vm.findClass RJ7 = some mi.cls := hown
  have hl : lv_has ls 4 [(0, .ref a), (1, .int (iI z))] := hl
  generalize hH0 : s.heap = H0 at hA hP hS hret ⊢
  obtain ⟨H, hH⟩ : ∃ H : Heap, H = H0 := ⟨_, rfl⟩
  obtain ⟨locs, hlocs⟩ : ∃ locs : List Loc, locs = [] := ⟨_, rfl⟩
  have hS : va_S A H0 H locs := by rw [hH, hlocs]; exact hS
  have hP : va_P D vwCl (a24W cI cZ a g) H := by rw [hH]; exact hP
  suffices hgo : W pr l en rm_J7_fill_53178_s24 s mi args below meth co H locs 0 0 Q (F0 mi 0 ls []) by rw [hH, hlocs] at hgo; exact hgo
  clear hH hlocs
  refine kx_const (z := 0) hx hb dJ7_fill_53178_0 rfl ?_
  refine lv_istore_n (lv' := [(2, .int (iI 0)), (0, .ref a), (1, .int (iI z))]) hx hb dJ7_fill_53178_1 rfl hl (by decide) rfl (fun ls hl => ?_)
  refine lv_aload_n hx hb dJ7_fill_53178_2 rfl (lv_at hl 1 rfl) ?_
  refine va_alen (v := iI 24) hx hb hK.1 hP 0 0 rfl rfl (by show Int32.ofNat 24 = iI 24; decide) dJ7_fill_53178_3 ?_
  refine lv_istore_n (lv' := [(3, .int (iI 24)), (2, .int (iI 0)), (0, .ref a), (1, .int (iI z))]) hx hb dJ7_fill_53178_4 rfl hl (by decide) rfl (fun ls hl => ?_)
  have L5 : ∀ (fu : Nat) (i : Nat) (g2 : Nat → Int), (i ≤ 24) → (∀ j : Nat, j < i → g2 j = (fun _ => z) j) → 24 - i < fu → ∀ (H : Heap) (locs : List Loc), va_P D vwCl (a24W cI cZ a g2) H → va_D A (a24W cI cZ a g2) → va_S A H0 H locs → ∀ ls : Array Slot, lv_has ls 4 [(0, .ref a), (1, .int (iI z)), (2, .int (iI (i : Int))), (3, .int (iI 24))] → W pr l en rm_J7_fill_53178_s24 s mi args below meth co H locs 0 0 Q (F0 mi 5 ls []) := by
    intro fu
    induction fu with
    | zero =>
      intro i g2 hi hg hfu
      exact absurd hfu (Nat.not_lt_zero _)
    | succ fu ih5 =>
      intro i g2 hi hg hfu H locs hP hD hS ls hl
      refine lv_iload_n hx hb dJ7_fill_53178_5 rfl (lv_at hl 2 rfl) ?_
      refine lv_iload_n hx hb dJ7_fill_53178_6 rfl (lv_at hl 3 rfl) ?_
      refine kx_icmp_ge (tgt := 20) hx hb (by omega) (by omega) dJ7_fill_53178_7 (by decide) (fun h7 => ?_) (fun h7 => ?_)
      · skip
        obtain ⟨hP, hD⟩ := kx_arr (g' := (fun _ => z)) hP hD 0 rfl (fun j hj => hg j (by omega))
        have hP : va_P D vwCl (a24W cI cZ a (fun _ => z)) H := hP
        have hD : va_D A (a24W cI cZ a (fun _ => z)) := hD
        exact hret () H locs _ _ (trivial) hP hD hS dJ7_fill_53178_20
      · skip
        refine lv_aload_n hx hb dJ7_fill_53178_10 rfl (lv_at hl 0 rfl) ?_
        refine lv_iload_n hx hb dJ7_fill_53178_11 rfl (lv_at hl 2 rfl) ?_
        refine lv_iload_n hx hb dJ7_fill_53178_12 rfl (lv_at hl 1 rfl) ?_
        refine kx_iast (k := i) (x := z) hx hb hK hP hD hS 0 rfl (by omega) (by omega) (by decide) dJ7_fill_53178_13 (fun H locs hP hD hS => ?_)
        have hP : va_P D vwCl (a24W cI cZ a (va_up g2 i z)) H := hP
        have hD : va_D A (a24W cI cZ a (va_up g2 i z)) := hD
        refine kx_iinc (z := ((i + 1 : Nat) : Int)) (lv' := [(2, .int (iI ((i + 1 : Nat) : Int))), (0, .ref a), (1, .int (iI z)), (3, .int (iI 24))]) hx hb dJ7_fill_53178_14 hl (k0 := 2) rfl (by omega) (by decide) rfl (fun ls hl => ?_)
        refine lv_goto (tgt := 5) hx hb dJ7_fill_53178_17 (by decide) ?_
        exact ih5 (i + 1) (va_up g2 i z) (by first | assumption | omega) (up_lt hg rfl) (by omega) H locs hP hD hS ls (lv_sub hl [1, 2, 0, 3] rfl)
  exact L5 (24 - 0 + 1) 0 g (by first | assumption | omega) (fun j hj => absurd hj (Nat.not_lt_zero j)) (Nat.lt_succ_self _) H locs hP hD hS ls (lv_sub hl [2, 3, 1, 0] rfl)
def rm_J7_fill_53178_s6 : Room := ({ frames := 0, cells := 0, slots := 0, locals := 0 } : Room)
set_option maxHeartbeats 4000000 in
set_option maxRecDepth 100000 in
theorem c_J7_fill_53178_s6 (l : Launch) (D : va_G) (cI cZ : ClassId) (a : Nat) (g : Nat → Int) (z : Int)  : kWR l yJ7_fill_53178 wsJ7_fill_53178 rm_J7_fill_53178_s6 D cI cZ [.ref a, .int (iI z)] (a6W cI cZ a g) (fun u : Unit => none) (fun u : Unit => True) (fun u : Unit => a6W cI cZ a (fun _ => z)) 0 0 := by
  refine kx_WRv (cc := cJ7_fill_53178) (maxL := 4) (by decide) rfl (Nat.le_of_ble_eq_true rfl) ?_
  intro pr en s mi args below meth co Q A hx hb hml hown hts hK hin hA hP hD hS hret ls hl
  have hown : s.vm.findClass RJ7 = some mi.cls := hown
  have hl : lv_has ls 4 [(0, .ref a), (1, .int (iI z))] := hl
  generalize hH0 : s.heap = H0 at hA hP hS hret ⊢
  obtain ⟨H, hH⟩ : ∃ H : Heap, H = H0 := ⟨_, rfl⟩
  obtain ⟨locs, hlocs⟩ : ∃ locs : List Loc, locs = [] := ⟨_, rfl⟩
  have hS : va_S A H0 H locs := by rw [hH, hlocs]; exact hS
  have hP : va_P D vwCl (a6W cI cZ a g) H := by rw [hH]; exact hP
  suffices hgo : W pr l en rm_J7_fill_53178_s6 s mi args below meth co H locs 0 0 Q (F0 mi 0 ls []) by rw [hH, hlocs] at hgo; exact hgo
  clear hH hlocs
  refine kx_const (z := 0) hx hb dJ7_fill_53178_0 rfl ?_
  refine lv_istore_n (lv' := [(2, .int (iI 0)), (0, .ref a), (1, .int (iI z))]) hx hb dJ7_fill_53178_1 rfl hl (by decide) rfl (fun ls hl => ?_)
  refine lv_aload_n hx hb dJ7_fill_53178_2 rfl (lv_at hl 1 rfl) ?_
  refine va_alen (v := iI 6) hx hb hK.1 hP 0 0 rfl rfl (by show Int32.ofNat 6 = iI 6; decide) dJ7_fill_53178_3 ?_
  refine lv_istore_n (lv' := [(3, .int (iI 6)), (2, .int (iI 0)), (0, .ref a), (1, .int (iI z))]) hx hb dJ7_fill_53178_4 rfl hl (by decide) rfl (fun ls hl => ?_)
  have L5 : ∀ (fu : Nat) (i : Nat) (g2 : Nat → Int), (i ≤ 6) → (∀ j : Nat, j < i → g2 j = (fun _ => z) j) → 6 - i < fu → ∀ (H : Heap) (locs : List Loc), va_P D vwCl (a6W cI cZ a g2) H → va_D A (a6W cI cZ a g2) → va_S A H0 H locs → ∀ ls : Array Slot, lv_has ls 4 [(0, .ref a), (1, .int (iI z)), (2, .int (iI (i : Int))), (3, .int (iI 6))] → W pr l en rm_J7_fill_53178_s6 s mi args below meth co H locs 0 0 Q (F0 mi 5 ls []) := by
    intro fu
    induction fu with
    | zero =>
      intro i g2 hi hg hfu
      exact absurd hfu (Nat.not_lt_zero _)
    | succ fu ih5 =>
      intro i g2 hi hg hfu H locs hP hD hS ls hl
      refine lv_iload_n hx hb dJ7_fill_53178_5 rfl (lv_at hl 2 rfl) ?_
      refine lv_iload_n hx hb dJ7_fill_53178_6 rfl (lv_at hl 3 rfl) ?_
      refine kx_icmp_ge (tgt := 20) hx hb (by omega) (by omega) dJ7_fill_53178_7 (by decide) (fun h7 => ?_) (fun h7 => ?_)
      · skip
        obtain ⟨hP, hD⟩ := kx_arr (g' := (fun _ => z)) hP hD 0 rfl (fun j hj => hg j (by omega))
        have hP : va_P D vwCl (a6W cI cZ a (fun _ => z)) H := hP
        have hD : va_D A (a6W cI cZ a (fun _ => z)) := hD
        exact hret () H locs _ _ (trivial) hP hD hS dJ7_fill_53178_20
      · skip
        refine lv_aload_n hx hb dJ7_fill_53178_10 rfl (lv_at hl 0 rfl) ?_
        refine lv_iload_n hx hb dJ7_fill_53178_11 rfl (lv_at hl 2 rfl) ?_
        refine lv_iload_n hx hb dJ7_fill_53178_12 rfl (lv_at hl 1 rfl) ?_
        refine kx_iast (k := i) (x := z) hx hb hK hP hD hS 0 rfl (by omega) (by omega) (by decide) dJ7_fill_53178_13 (fun H locs hP hD hS => ?_)
        have hP : va_P D vwCl (a6W cI cZ a (va_up g2 i z)) H := hP
        have hD : va_D A (a6W cI cZ a (va_up g2 i z)) := hD
        refine kx_iinc (z := ((i + 1 : Nat) : Int)) (lv' := [(2, .int (iI ((i + 1 : Nat) : Int))), (0, .ref a), (1, .int (iI z)), (3, .int (iI 6))]) hx hb dJ7_fill_53178_14 hl (k0 := 2) rfl (by omega) (by decide) rfl (fun ls hl => ?_)
        refine lv_goto (tgt := 5) hx hb dJ7_fill_53178_17 (by decide) ?_
        exact ih5 (i + 1) (va_up g2 i z) (by first | assumption | omega) (up_lt hg rfl) (by omega) H locs hP hD hS ls (lv_sub hl [1, 2, 0, 3] rfl)
  exact L5 (6 - 0 + 1) 0 g (by first | assumption | omega) (fun j hj => absurd hj (Nat.not_lt_zero j)) (Nat.lt_succ_self _) H locs hP hD hS ls (lv_sub hl [2, 3, 1, 0] rfl)
def rm_J7_fill_53178_s36 : Room := ({ frames := 0, cells := 0, slots := 0, locals := 0 } : Room)
set_option maxHeartbeats 4000000 in
set_option maxRecDepth 100000 in
theorem c_J7_fill_53178_s36 (l : Launch) (D : va_G) (cI cZ : ClassId) (a : Nat) (g : Nat → Int) (z : Int)  : kWR l yJ7_fill_53178 wsJ7_fill_53178 rm_J7_fill_53178_s36 D cI cZ [.ref a, .int (iI z)] (a36W cI cZ a g) (fun u : Unit => none) (fun u : Unit => True) (fun u : Unit => a36W cI cZ a (fun _ => z)) 0 0 := by
  refine kx_WRv (cc := cJ7_fill_53178) (maxL := 4) (by decide) rfl (Nat.le_of_ble_eq_true rfl) ?_
  intro pr en s mi args below meth co Q A hx hb hml hown hts hK hin hA hP hD hS hret ls hl
  have hown : s.vm.findClass RJ7 = some mi.cls := hown
  have hl : lv_has ls 4 [(0, .ref a), (1, .int (iI z))] := hl
  generalize hH0 : s.heap = H0 at hA hP hS hret ⊢
  obtain ⟨H, hH⟩ : ∃ H : Heap, H = H0 := ⟨_, rfl⟩
  obtain ⟨locs, hlocs⟩ : ∃ locs : List Loc, locs = [] := ⟨_, rfl⟩
  have hS : va_S A H0 H locs := by rw [hH, hlocs]; exact hS
  have hP : va_P D vwCl (a36W cI cZ a g) H := by rw [hH]; exact hP
  suffices hgo : W pr l en rm_J7_fill_53178_s36 s mi args below meth co H locs 0 0 Q (F0 mi 0 ls []) by rw [hH, hlocs] at hgo; exact hgo
  clear hH hlocs
  refine kx_const (z := 0) hx hb dJ7_fill_53178_0 rfl ?_
  refine lv_istore_n (lv' := [(2, .int (iI 0)), (0, .ref a), (1, .int (iI z))]) hx hb dJ7_fill_53178_1 rfl hl (by decide) rfl (fun ls hl => ?_)
  refine lv_aload_n hx hb dJ7_fill_53178_2 rfl (lv_at hl 1 rfl) ?_
  refine va_alen (v := iI 36) hx hb hK.1 hP 0 0 rfl rfl (by show Int32.ofNat 36 = iI 36; decide) dJ7_fill_53178_3 ?_
  refine lv_istore_n (lv' := [(3, .int (iI 36)), (2, .int (iI 0)), (0, .ref a), (1, .int (iI z))]) hx hb dJ7_fill_53178_4 rfl hl (by decide) rfl (fun ls hl => ?_)
  have L5 : ∀ (fu : Nat) (i : Nat) (g2 : Nat → Int), (i ≤ 36) → (∀ j : Nat, j < i → g2 j = (fun _ => z) j) → 36 - i < fu → ∀ (H : Heap) (locs : List Loc), va_P D vwCl (a36W cI cZ a g2) H → va_D A (a36W cI cZ a g2) → va_S A H0 H locs → ∀ ls : Array Slot, lv_has ls 4 [(0, .ref a), (1, .int (iI z)), (2, .int (iI (i : Int))), (3, .int (iI 36))] → W pr l en rm_J7_fill_53178_s36 s mi args below meth co H locs 0 0 Q (F0 mi 5 ls []) := by
    intro fu
    induction fu with
    | zero =>
      intro i g2 hi hg hfu
      exact absurd hfu (Nat.not_lt_zero _)
    | succ fu ih5 =>
      intro i g2 hi hg hfu H locs hP hD hS ls hl
      refine lv_iload_n hx hb dJ7_fill_53178_5 rfl (lv_at hl 2 rfl) ?_
      refine lv_iload_n hx hb dJ7_fill_53178_6 rfl (lv_at hl 3 rfl) ?_
      refine kx_icmp_ge (tgt := 20) hx hb (by omega) (by omega) dJ7_fill_53178_7 (by decide) (fun h7 => ?_) (fun h7 => ?_)
      · skip
        obtain ⟨hP, hD⟩ := kx_arr (g' := (fun _ => z)) hP hD 0 rfl (fun j hj => hg j (by omega))
        have hP : va_P D vwCl (a36W cI cZ a (fun _ => z)) H := hP
        have hD : va_D A (a36W cI cZ a (fun _ => z)) := hD
        exact hret () H locs _ _ (trivial) hP hD hS dJ7_fill_53178_20
      · skip
        refine lv_aload_n hx hb dJ7_fill_53178_10 rfl (lv_at hl 0 rfl) ?_
        refine lv_iload_n hx hb dJ7_fill_53178_11 rfl (lv_at hl 2 rfl) ?_
        refine lv_iload_n hx hb dJ7_fill_53178_12 rfl (lv_at hl 1 rfl) ?_
        refine kx_iast (k := i) (x := z) hx hb hK hP hD hS 0 rfl (by omega) (by omega) (by decide) dJ7_fill_53178_13 (fun H locs hP hD hS => ?_)
        have hP : va_P D vwCl (a36W cI cZ a (va_up g2 i z)) H := hP
        have hD : va_D A (a36W cI cZ a (va_up g2 i z)) := hD
        refine kx_iinc (z := ((i + 1 : Nat) : Int)) (lv' := [(2, .int (iI ((i + 1 : Nat) : Int))), (0, .ref a), (1, .int (iI z)), (3, .int (iI 36))]) hx hb dJ7_fill_53178_14 hl (k0 := 2) rfl (by omega) (by decide) rfl (fun ls hl => ?_)
        refine lv_goto (tgt := 5) hx hb dJ7_fill_53178_17 (by decide) ?_
        exact ih5 (i + 1) (va_up g2 i z) (by first | assumption | omega) (up_lt hg rfl) (by omega) H locs hP hD hS ls (lv_sub hl [1, 2, 0, 3] rfl)
  exact L5 (36 - 0 + 1) 0 g (by first | assumption | omega) (fun j hj => absurd hj (Nat.not_lt_zero j)) (Nat.lt_succ_self _) H locs hP hD hS ls (lv_sub hl [2, 3, 1, 0] rfl)
def rm_X1_readFrom : Room := ({ frames := 3, cells := 0, slots := 0, locals := 65 } : Room)
set_option maxHeartbeats 4000000 in
set_option maxRecDepth 100000 in
theorem c_X1_readFrom (l : Launch) (D : va_G) (cI cZ : ClassId) (n n1 n2 n3 p p1 : Nat) (no li : Int) (dg nb wy : Nat → Int) (le : Int) (te : Nat → Int)  (hle : 0 ≤ le ∧ le ≤ 61) (hte : ∀ k : Nat, k < 61 → 0 ≤ te k ∧ te k ≤ 126) (hnet : fau te le.toNat = le.toNat ∧ 4 < le ∧ le % 4 = 1) : kWR l yX1_readFrom wsX1_readFrom rm_X1_readFrom D cI cZ [.ref n, .ref p] (npW cI cZ n n1 n2 n3 p p1 no li dg nb wy le te) (fun u : Unit => none) (fun u : Unit => True) (fun u : Unit => npW cI cZ n n1 n2 n3 p p1 (tD te 0) ((le - 1) / 4) ((jS te nb ((le.toNat - 1) / 4)).1) ((jS te nb ((le.toNat - 1) / 4)).2.1) (fwO (jS te nb ((le.toNat - 1) / 4)).2.2 (tD te 0).toNat (tD te 0).toNat) le te) 0 0 := by
  refine kx_WRv (cc := cX1_readFrom) (maxL := 4) (by decide) rfl (Nat.le_of_ble_eq_true rfl) ?_
  intro pr en s mi args below meth co Q A hx hb hml hown hts hK hin hA hP hD hS hret ls hl
  have hown : s.vm.findClass RX1 = some mi.cls := hown
  have iX1 : ∀ w ∈ wsX10, w ∈ wsX1_readFrom := by decide +kernel
  have hl : lv_has ls 4 [(0, .ref n), (1, .ref p)] := hl
  generalize hH0 : s.heap = H0 at hA hP hS hret ⊢
  obtain ⟨H, hH⟩ : ∃ H : Heap, H = H0 := ⟨_, rfl⟩
  obtain ⟨locs, hlocs⟩ : ∃ locs : List Loc, locs = [] := ⟨_, rfl⟩
  have hS : va_S A H0 H locs := by rw [hH, hlocs]; exact hS
  have hP : va_P D vwCl (npW cI cZ n n1 n2 n3 p p1 no li dg nb wy le te) H := by rw [hH]; exact hP
  suffices hgo : W pr l en rm_X1_readFrom s mi args below meth co H locs 0 0 Q (F0 mi 0 ls []) by rw [hH, hlocs] at hgo; exact hgo
  clear hH hlocs
  have hfit := fau_all hnet.1
  have h0 := fit0.mp (hfit 0 (by omega))
  have hlk : lkOK te ((le.toNat - 1) / 4) := lkOK_of hfit (by omega)
  have htd : ∀ j : Nat, (j : Int) < le → pgL te le j - 48 = tD te j := fun j hj => pg_tD hj
  have htz : pgL te le 0 - 48 = tD te 0 := htd 0 (by omega)
  refine lv_aload_n hx hb dX1_readFrom_0 rfl (lv_at hl 0 rfl) ?_
  refine lv_aload_n hx hb dX1_readFrom_1 rfl (lv_at hl 1 rfl) ?_
  refine kx_const (z := 0) hx hb dX1_readFrom_2 rfl ?_
  refine kx_cV (As := [.int (iI 0)]) (rest := [.ref n]) (st1 := [.int (iI ((pgL te le 0) - 48)), .ref n]) (q0 := 0) (ci := 2) ⟨hx, hb, hml, hown, hts⟩ (c_X2_digitAt l D cI cZ p p1 le te 0 (by first | assumption | omega) (by first | assumption | omega)) (cwV 1 hts gX1_readFrom_X2_digitAt rfl rfl rfl (by decide +kernel) ⟨Nat.le_of_ble_eq_true rfl, Nat.le_of_ble_eq_true rfl⟩) hK (hP.sub (ws' := pgW cI cZ p p1 le te) [4, 5] rfl) rfl rfl rfl hl.1 rfl (Nat.le_of_ble_eq_true rfl) dX1_readFrom_3 ⟨Nat.zero_le _, Nat.zero_le _⟩ rfl ?_
  refine kx_top (b := (tD te 0)) (htz) ?_
  refine va_put (D := D) (ci := 1) (v := .int (iI (tD te 0))) (ty := .int) (C := RX1) (T := TX1) (N := 5) hx hb hts iX1 tyX1 tyX1_ok nmX1 hown hK.1 hP hD hS 0 rfl rfl 3 (by decide) (hts (.fieldLink RX1 21 "CloseClocks$Net" "nodes" "I") (by decide +kernel)) (fun _ h9 => h9) rfl (by decide +kernel) rfl rfl (Nat.le_of_ble_eq_true rfl) dX1_readFrom_6 (fun H locs hP hD hS => ?_)
  have hP : va_P D vwCl (npW cI cZ n n1 n2 n3 p p1 (tD te 0) li dg nb wy le te) H := hP
  have hD : va_D A (npW cI cZ n n1 n2 n3 p p1 (tD te 0) li dg nb wy le te) := hD
  refine lv_aload_n hx hb dX1_readFrom_9 rfl (lv_at hl 0 rfl) ?_
  refine lv_aload_n hx hb dX1_readFrom_10 rfl (lv_at hl 1 rfl) ?_
  refine kx_cV (As := []) (rest := [.ref n]) (st1 := [.int (iI ((le - 1) / 4)), .ref n]) (q0 := 0) (ci := 2) ⟨hx, hb, hml, hown, hts⟩ (c_X2_howManyLinks l D cI cZ p p1 le te (by first | assumption | omega)) (cwV 0 hts gX1_readFrom_X2_howManyLinks rfl rfl rfl (by decide +kernel) ⟨Nat.le_of_ble_eq_true rfl, Nat.le_of_ble_eq_true rfl⟩) hK (hP.sub (ws' := pgW cI cZ p p1 le te) [4, 5] rfl) rfl rfl rfl hl.1 rfl (Nat.le_of_ble_eq_true rfl) dX1_readFrom_11 ⟨Nat.zero_le _, Nat.zero_le _⟩ rfl ?_
  refine va_put (D := D) (ci := 1) (v := .int (iI ((le - 1) / 4))) (ty := .int) (C := RX1) (T := TX1) (N := 5) hx hb hts iX1 tyX1 tyX1_ok nmX1 hown hK.1 hP hD hS 0 rfl rfl 4 (by decide) (hts (.fieldLink RX1 25 "CloseClocks$Net" "links" "I") (by decide +kernel)) (fun _ h9 => h9) rfl (by decide +kernel) rfl rfl (Nat.le_of_ble_eq_true rfl) dX1_readFrom_14 (fun H locs hP hD hS => ?_)
  have hP : va_P D vwCl (npW cI cZ n n1 n2 n3 p p1 (tD te 0) ((le - 1) / 4) dg nb wy le te) H := hP
  have hD : va_D A (npW cI cZ n n1 n2 n3 p p1 (tD te 0) ((le - 1) / 4) dg nb wy le te) := hD
  refine kx_const (z := 0) hx hb dX1_readFrom_17 rfl ?_
  refine lv_istore_n (lv' := [(2, .int (iI 0)), (0, .ref n), (1, .ref p)]) hx hb dX1_readFrom_18 rfl hl (by decide) rfl (fun ls hl => ?_)
  have L19 : ∀ (fu : Nat) (v : Nat) (gd : Nat → Int) (gw : Nat → Int), (v ≤ 6) → (∀ j : Nat, j < v → gd j = (fun _ => 0) j) → (∀ j : Nat, j < v * 6 → gw j = w0 j) → 6 - v < fu → ∀ (H : Heap) (locs : List Loc), va_P D vwCl (npW cI cZ n n1 n2 n3 p p1 (tD te 0) ((le - 1) / 4) gd nb gw le te) H → va_D A (npW cI cZ n n1 n2 n3 p p1 (tD te 0) ((le - 1) / 4) gd nb gw le te) → va_S A H0 H locs → ∀ ls : Array Slot, lv_has ls 4 [(0, .ref n), (1, .ref p), (2, .int (iI (v : Int)))] → W pr l en rm_X1_readFrom s mi args below meth co H locs 0 0 Q (F0 mi 19 ls []) := by
    intro fu
    induction fu with
    | zero =>
      intro v gd gw hv hgd hgw hfu
      exact absurd hfu (Nat.not_lt_zero _)
    | succ fu ih19 =>
      intro v gd gw hv hgd hgw hfu H locs hP hD hS ls hl
      refine lv_iload_n hx hb dX1_readFrom_19 rfl (lv_at hl 2 rfl) ?_
      refine kx_bipush (z := 6) hx hb dX1_readFrom_20 (by decide) ?_
      refine kx_icmp_ge (tgt := 74) hx hb (by omega) (by omega) dX1_readFrom_22 (by decide) (fun h22 => ?_) (fun h22 => ?_)
      · skip
        obtain ⟨hP, hD⟩ := kx_arr (g' := (fun _ => 0)) hP hD 1 rfl (fun j hj => hgd j (by omega))
        have hP : va_P D vwCl (npW cI cZ n n1 n2 n3 p p1 (tD te 0) ((le - 1) / 4) (fun _ => 0) nb gw le te) H := hP
        have hD : va_D A (npW cI cZ n n1 n2 n3 p p1 (tD te 0) ((le - 1) / 4) (fun _ => 0) nb gw le te) := hD
        obtain ⟨hP, hD⟩ := kx_arr (g' := w0) hP hD 3 rfl (fun j hj => hgw j (by omega))
        have hP : va_P D vwCl (npW cI cZ n n1 n2 n3 p p1 (tD te 0) ((le - 1) / 4) (fun _ => 0) nb w0 le te) H := hP
        have hD : va_D A (npW cI cZ n n1 n2 n3 p p1 (tD te 0) ((le - 1) / 4) (fun _ => 0) nb w0 le te) := hD
        refine kx_const (z := 0) hx hb dX1_readFrom_74 rfl ?_
        refine lv_istore_n (lv' := [(2, .int (iI 0)), (0, .ref n), (1, .ref p)]) hx hb dX1_readFrom_75 rfl hl (by decide) rfl (fun ls hl => ?_)
        have L76 : ∀ (fu : Nat) (i : Nat), ((i : Int) ≤ (le - 1) / 4) → ((le.toNat - 1) / 4) - i < fu → ∀ (H : Heap) (locs : List Loc), va_P D vwCl (npW cI cZ n n1 n2 n3 p p1 (tD te 0) ((le - 1) / 4) ((jS te nb i).1) ((jS te nb i).2.1) ((jS te nb i).2.2) le te) H → va_D A (npW cI cZ n n1 n2 n3 p p1 (tD te 0) ((le - 1) / 4) ((jS te nb i).1) ((jS te nb i).2.1) ((jS te nb i).2.2) le te) → va_S A H0 H locs → ∀ ls : Array Slot, lv_has ls 4 [(0, .ref n), (1, .ref p), (2, .int (iI (i : Int)))] → W pr l en rm_X1_readFrom s mi args below meth co H locs 0 0 Q (F0 mi 76 ls []) := by
          intro fu
          induction fu with
          | zero =>
            intro i hi hfu
            exact absurd hfu (Nat.not_lt_zero _)
          | succ fu ih76 =>
            intro i hi hfu H locs hP hD hS ls hl
            have hlki : lkOK te i := fun j hj => hlk j (by omega)
            have hji := jOK_all (nb := nb) (t := te) (by omega) i hlki
            refine lv_iload_n hx hb dX1_readFrom_76 rfl (lv_at hl 2 rfl) ?_
            refine lv_aload_n hx hb dX1_readFrom_77 rfl (lv_at hl 0 rfl) ?_
            refine va_get (D := D) (ci := 1) (v := .int (iI ((le - 1) / 4))) (C := RX1) (T := TX1) (N := 5) hx hb hts iX1 hown hK.1 hP 0 rfl rfl 4 (by decide) (hts (.fieldLink RX1 25 "CloseClocks$Net" "links" "I") (by decide +kernel)) (fun _ h9 => h9) rfl dX1_readFrom_78 ?_
            refine kx_icmp_ge (tgt := 111) hx hb (by omega) (by omega) dX1_readFrom_81 (by decide) (fun h81 => ?_) (fun h81 => ?_)
            · skip
              have hie : i = ((le.toNat - 1) / 4) := by omega
              have hwo : wOK (jS te nb i).2.2 := jOK_w hji
              refine lv_aload_n hx hb dX1_readFrom_111 rfl (lv_at hl 0 rfl) ?_
              refine kx_cVW (As := []) (rest := []) (wr := [(p, .inr (2, [.ref p1, .int (iI le)])), (p1, aI cI 61 te)]) (q0 := 0) (ci := 1) ⟨hx, hb, hml, hown, hts⟩ (c_X1_shortenWays l D cI cZ n n1 n2 n3 (tD te 0) ((le - 1) / 4) ((jS te nb i).1) ((jS te nb i).2.1) ((jS te nb i).2.2) (by first | assumption | omega) (by first | assumption | omega)) (cwV 0 hts gX1_readFrom_X1_shortenWays rfl rfl rfl (by decide +kernel) ⟨Nat.le_of_ble_eq_true rfl, Nat.le_of_ble_eq_true rfl⟩) hK hP hD hS hA [0, 1, 2, 3] [4, 5] rfl rfl (by decide) (by decide) (by decide) rfl rfl rfl hl.1 rfl (Nat.le_of_ble_eq_true rfl) dX1_readFrom_112 ⟨Nat.le_of_ble_eq_true rfl, Nat.le_of_ble_eq_true rfl⟩ (fun u H locs hq hP hD hS => ?_)
              have hP : va_P D vwCl (npW cI cZ n n1 n2 n3 p p1 (tD te 0) ((le - 1) / 4) ((jS te nb i).1) ((jS te nb i).2.1) (fwO (jS te nb i).2.2 (tD te 0).toNat (tD te 0).toNat) le te) H := hP.sub [2, 3, 4, 5, 0, 1] rfl
              have hD : va_D A (npW cI cZ n n1 n2 n3 p p1 (tD te 0) ((le - 1) / 4) ((jS te nb i).1) ((jS te nb i).2.1) (fwO (jS te nb i).2.2 (tD te 0).toNat (tD te 0).toNat) le te) := hD.sub [2, 3, 4, 5, 0, 1] (by decide) rfl
              refine W.eq (g2 := F0 mi 115 ls []) rfl ?_
              rw [hie] at hP hD
              have hP : va_P D vwCl (npW cI cZ n n1 n2 n3 p p1 (tD te 0) ((le - 1) / 4) ((jS te nb ((le.toNat - 1) / 4)).1) ((jS te nb ((le.toNat - 1) / 4)).2.1) (fwO (jS te nb ((le.toNat - 1) / 4)).2.2 (tD te 0).toNat (tD te 0).toNat) le te) H := hP
              have hD : va_D A (npW cI cZ n n1 n2 n3 p p1 (tD te 0) ((le - 1) / 4) ((jS te nb ((le.toNat - 1) / 4)).1) ((jS te nb ((le.toNat - 1) / 4)).2.1) (fwO (jS te nb ((le.toNat - 1) / 4)).2.2 (tD te 0).toNat (tD te 0).toNat) le te) := hD
              exact hret () H locs _ _ (trivial) hP hD hS dX1_readFrom_115
            · skip
              have hli := hlk i (by omega)
              have t2 := htd (2 + 4 * i) (by omega)
              have t3 := htd (3 + 4 * i) (by omega)
              refine lv_iload_n hx hb dX1_readFrom_84 rfl (lv_at hl 2 rfl) ?_
              refine kx_cS (As := [.int (iI (i : Int))]) (rest := []) (st1 := [.int (iI (2 + (4 * (i : Int))))]) ⟨hx, hb, hml, hown, hts⟩ (c_X2_placeOfLink l D cI cZ (i : Int) ) (va_cwS 1 hts gX1_readFrom_X2_placeOfLink rfl rfl rfl (by decide +kernel) ⟨Nat.le_of_ble_eq_true rfl, Nat.le_of_ble_eq_true rfl⟩) hK (hP.sub (ws' := []) [] rfl) rfl hl.1 rfl (Nat.le_of_ble_eq_true rfl) dX1_readFrom_85 ⟨Nat.zero_le _, Nat.zero_le _⟩ rfl ?_
              refine kx_top (b := ((2 + 4 * i : Nat) : Int)) (by omega) ?_
              refine lv_istore_n (lv' := [(3, .int (iI ((2 + 4 * i : Nat) : Int))), (0, .ref n), (1, .ref p), (2, .int (iI (i : Int)))]) hx hb dX1_readFrom_88 rfl hl (by decide) rfl (fun ls hl => ?_)
              refine lv_aload_n hx hb dX1_readFrom_89 rfl (lv_at hl 1 rfl) ?_
              refine lv_aload_n hx hb dX1_readFrom_90 rfl (lv_at hl 2 rfl) ?_
              refine lv_iload_n hx hb dX1_readFrom_91 rfl (lv_at hl 0 rfl) ?_
              refine kx_cV (As := [.int (iI ((2 + 4 * i : Nat) : Int))]) (rest := [.ref n]) (st1 := [.int (iI ((pgL te le ((2 + 4 * i : Nat) : Int)) - 48)), .ref n]) (q0 := 0) (ci := 2) ⟨hx, hb, hml, hown, hts⟩ (c_X2_digitAt l D cI cZ p p1 le te ((2 + 4 * i : Nat) : Int) (by first | assumption | omega) (by first | assumption | omega)) (cwV 1 hts gX1_readFrom_X2_digitAt rfl rfl rfl (by decide +kernel) ⟨Nat.le_of_ble_eq_true rfl, Nat.le_of_ble_eq_true rfl⟩) hK (hP.sub (ws' := pgW cI cZ p p1 le te) [4, 5] rfl) rfl rfl rfl hl.1 rfl (Nat.le_of_ble_eq_true rfl) dX1_readFrom_92 ⟨Nat.zero_le _, Nat.zero_le _⟩ rfl ?_
              refine kx_top (b := (((tD te (2 + 4 * i)).toNat : Nat) : Int)) (by omega) ?_
              refine lv_aload_n hx hb dX1_readFrom_95 rfl (lv_at hl 2 rfl) ?_
              refine lv_iload_n hx hb dX1_readFrom_96 rfl (lv_at hl 0 rfl) ?_
              refine kx_const (z := 1) hx hb dX1_readFrom_97 rfl ?_
              refine kx_iadd hx hb dX1_readFrom_98 ?_
              refine kx_top (b := ((3 + 4 * i : Nat) : Int)) (by omega) ?_
              refine kx_cV (As := [.int (iI ((3 + 4 * i : Nat) : Int))]) (rest := [.int (iI (((tD te (2 + 4 * i)).toNat : Nat) : Int)), .ref n]) (st1 := [.int (iI ((pgL te le ((3 + 4 * i : Nat) : Int)) - 48)), .int (iI (((tD te (2 + 4 * i)).toNat : Nat) : Int)), .ref n]) (q0 := 0) (ci := 2) ⟨hx, hb, hml, hown, hts⟩ (c_X2_digitAt l D cI cZ p p1 le te ((3 + 4 * i : Nat) : Int) (by first | assumption | omega) (by first | assumption | omega)) (cwV 1 hts gX1_readFrom_X2_digitAt rfl rfl rfl (by decide +kernel) ⟨Nat.le_of_ble_eq_true rfl, Nat.le_of_ble_eq_true rfl⟩) hK (hP.sub (ws' := pgW cI cZ p p1 le te) [4, 5] rfl) rfl rfl rfl hl.1 rfl (Nat.le_of_ble_eq_true rfl) dX1_readFrom_99 ⟨Nat.zero_le _, Nat.zero_le _⟩ rfl ?_
              refine kx_top (b := (((tD te (3 + 4 * i)).toNat : Nat) : Int)) (by omega) ?_
              refine kx_cVW (As := [.int (iI (((tD te (2 + 4 * i)).toNat : Nat) : Int)), .int (iI (((tD te (3 + 4 * i)).toNat : Nat) : Int))]) (rest := []) (wr := [(p, .inr (2, [.ref p1, .int (iI le)])), (p1, aI cI 61 te)]) (q0 := 0) (ci := 1) ⟨hx, hb, hml, hown, hts⟩ (c_X1_join l D cI cZ n n1 n2 n3 (tD te 0) ((le - 1) / 4) ((jS te nb i).1) ((jS te nb i).2.1) ((jS te nb i).2.2) ((tD te (2 + 4 * i)).toNat) ((tD te (3 + 4 * i)).toNat) (by first | assumption | omega) (by first | assumption | omega) (by first | assumption | omega) (by first | assumption | omega) (jOK_dg hji hlki (by omega)) (jOK_dg hji hlki (by omega))) (cwV 2 hts gX1_readFrom_X1_join rfl rfl rfl (by decide +kernel) ⟨Nat.le_of_ble_eq_true rfl, Nat.le_of_ble_eq_true rfl⟩) hK hP hD hS hA [0, 1, 2, 3] [4, 5] rfl rfl (by decide) (by decide) (by decide) rfl rfl rfl hl.1 rfl (Nat.le_of_ble_eq_true rfl) dX1_readFrom_102 ⟨Nat.le_of_ble_eq_true rfl, Nat.le_of_ble_eq_true rfl⟩ (fun u H locs hq hP hD hS => ?_)
              have hP : va_P D vwCl (npW cI cZ n n1 n2 n3 p p1 (tD te 0) ((le - 1) / 4) (aNd (aNd (jS te nb i).1 ((tD te (2 + 4 * i)).toNat)) ((tD te (3 + 4 * i)).toNat)) (aNn (aNd (jS te nb i).1 ((tD te (2 + 4 * i)).toNat)) (aNn (jS te nb i).1 (jS te nb i).2.1 ((tD te (2 + 4 * i)).toNat) ((tD te (3 + 4 * i)).toNat)) ((tD te (3 + 4 * i)).toNat) ((tD te (2 + 4 * i)).toNat)) (aNw (aNw (jS te nb i).2.2 ((tD te (2 + 4 * i)).toNat) ((tD te (3 + 4 * i)).toNat)) ((tD te (3 + 4 * i)).toNat) ((tD te (2 + 4 * i)).toNat)) le te) H := hP.sub [2, 3, 4, 5, 0, 1] rfl
              have hD : va_D A (npW cI cZ n n1 n2 n3 p p1 (tD te 0) ((le - 1) / 4) (aNd (aNd (jS te nb i).1 ((tD te (2 + 4 * i)).toNat)) ((tD te (3 + 4 * i)).toNat)) (aNn (aNd (jS te nb i).1 ((tD te (2 + 4 * i)).toNat)) (aNn (jS te nb i).1 (jS te nb i).2.1 ((tD te (2 + 4 * i)).toNat) ((tD te (3 + 4 * i)).toNat)) ((tD te (3 + 4 * i)).toNat) ((tD te (2 + 4 * i)).toNat)) (aNw (aNw (jS te nb i).2.2 ((tD te (2 + 4 * i)).toNat) ((tD te (3 + 4 * i)).toNat)) ((tD te (3 + 4 * i)).toNat) ((tD te (2 + 4 * i)).toNat)) le te) := hD.sub [2, 3, 4, 5, 0, 1] (by decide) rfl
              refine W.eq (g2 := F0 mi 105 ls []) rfl ?_
              refine kx_iinc (z := ((i + 1 : Nat) : Int)) (lv' := [(2, .int (iI ((i + 1 : Nat) : Int))), (3, .int (iI ((2 + 4 * i : Nat) : Int))), (0, .ref n), (1, .ref p)]) hx hb dX1_readFrom_105 hl (k0 := 3) rfl (by omega) (by decide) rfl (fun ls hl => ?_)
              refine lv_goto (tgt := 76) hx hb dX1_readFrom_108 (by decide) ?_
              exact ih76 (i + 1) (by first | assumption | omega) (by omega) H locs hP hD hS ls (lv_sub hl [2, 3, 0] rfl)
        exact L76 (((le.toNat - 1) / 4) - 0 + 1) 0 (by first | assumption | omega) (Nat.lt_succ_self _) H locs hP hD hS ls (lv_sub hl [1, 2, 0] rfl)
      · skip
        refine lv_aload_n hx hb dX1_readFrom_25 rfl (lv_at hl 0 rfl) ?_
        refine va_get (D := D) (ci := 1) (v := .ref n1) (C := RX1) (T := TX1) (N := 5) hx hb hts iX1 hown hK.1 hP 0 rfl rfl 0 (by decide) (hts (.fieldLink RX1 9 "CloseClocks$Net" "degrees" "[I") (by decide +kernel)) (fun _ h9 => h9) rfl dX1_readFrom_26 ?_
        refine lv_iload_n hx hb dX1_readFrom_29 rfl (lv_at hl 2 rfl) ?_
        refine kx_const (z := 0) hx hb dX1_readFrom_30 rfl ?_
        refine kx_iast (k := v) (x := 0) hx hb hK hP hD hS 1 rfl (by omega) (by omega) (by decide) dX1_readFrom_31 (fun H locs hP hD hS => ?_)
        have hP : va_P D vwCl (npW cI cZ n n1 n2 n3 p p1 (tD te 0) ((le - 1) / 4) (va_up gd v 0) nb gw le te) H := hP
        have hD : va_D A (npW cI cZ n n1 n2 n3 p p1 (tD te 0) ((le - 1) / 4) (va_up gd v 0) nb gw le te) := hD
        refine kx_const (z := 0) hx hb dX1_readFrom_32 rfl ?_
        refine lv_istore_n (lv' := [(3, .int (iI 0)), (0, .ref n), (1, .ref p), (2, .int (iI (v : Int)))]) hx hb dX1_readFrom_33 rfl hl (by decide) rfl (fun ls hl => ?_)
        have L34 : ∀ (fu : Nat) (w : Nat) (gw2 : Nat → Int), (w ≤ 6) → (∀ j : Nat, j < v * 6 + w → gw2 j = w0 j) → 6 - w < fu → ∀ (H : Heap) (locs : List Loc), va_P D vwCl (npW cI cZ n n1 n2 n3 p p1 (tD te 0) ((le - 1) / 4) (va_up gd v 0) nb gw2 le te) H → va_D A (npW cI cZ n n1 n2 n3 p p1 (tD te 0) ((le - 1) / 4) (va_up gd v 0) nb gw2 le te) → va_S A H0 H locs → ∀ ls : Array Slot, lv_has ls 4 [(0, .ref n), (1, .ref p), (2, .int (iI (v : Int))), (3, .int (iI (w : Int)))] → W pr l en rm_X1_readFrom s mi args below meth co H locs 0 0 Q (F0 mi 34 ls []) := by
          intro fu
          induction fu with
          | zero =>
            intro w gw2 hw hgw2 hfu
            exact absurd hfu (Nat.not_lt_zero _)
          | succ fu ih34 =>
            intro w gw2 hw hgw2 hfu H locs hP hD hS ls hl
            refine lv_iload_n hx hb dX1_readFrom_34 rfl (lv_at hl 3 rfl) ?_
            refine kx_bipush (z := 6) hx hb dX1_readFrom_35 (by decide) ?_
            refine kx_icmp_ge (tgt := 68) hx hb (by omega) (by omega) dX1_readFrom_37 (by decide) (fun h37 => ?_) (fun h37 => ?_)
            · skip
              refine kx_iinc (z := ((v + 1 : Nat) : Int)) (lv' := [(2, .int (iI ((v + 1 : Nat) : Int))), (0, .ref n), (1, .ref p), (3, .int (iI (w : Int)))]) hx hb dX1_readFrom_68 hl (k0 := 2) rfl (by omega) (by decide) rfl (fun ls hl => ?_)
              refine lv_goto (tgt := 19) hx hb dX1_readFrom_71 (by decide) ?_
              exact ih19 (v + 1) (va_up gd v 0) gw2 (by first | assumption | omega) (up_lt hgd rfl) (fun j hj => hgw2 j (by omega)) (by omega) H locs hP hD hS ls (lv_sub hl [1, 2, 0] rfl)
            · skip
              refine lv_aload_n hx hb dX1_readFrom_40 rfl (lv_at hl 0 rfl) ?_
              refine va_get (D := D) (ci := 1) (v := .ref n3) (C := RX1) (T := TX1) (N := 5) hx hb hts iX1 hown hK.1 hP 0 rfl rfl 2 (by decide) (hts (.fieldLink RX1 18 "CloseClocks$Net" "ways" "[I") (by decide +kernel)) (fun _ h9 => h9) rfl dX1_readFrom_41 ?_
              refine lv_iload_n hx hb dX1_readFrom_44 rfl (lv_at hl 2 rfl) ?_
              refine lv_iload_n hx hb dX1_readFrom_45 rfl (lv_at hl 3 rfl) ?_
              refine kx_cSN (As := [.int (iI (v : Int)), .int (iI (w : Int))]) (rest := [.ref n3]) (st1 := [.int (iI (((v : Int) * 6) + (w : Int))), .ref n3]) ⟨hx, hb, hml, hown, hts⟩ (c_X3_cell l D cI cZ (v : Int) (w : Int) ) ⟨va_cnB 2 hts gX1_readFrom_X3_cell_n32 rfl rfl rfl (hK.2.2 (RX1, 32, yX3_cell) (List.mem_of_getElem? (i := 2) rfl)) (hts (.initialized RX3) (by decide +kernel)) (by decide +kernel) ⟨Nat.le_of_ble_eq_true rfl, Nat.le_of_ble_eq_true rfl⟩, hts (.static yX3_cell) (by decide +kernel), trivial⟩ hK (hP.sub (ws' := []) [] rfl) rfl hl.1 rfl (Nat.le_of_ble_eq_true rfl) dX1_readFrom_46 ⟨Nat.zero_le _, Nat.zero_le _⟩ rfl ?_
              refine lv_iload_n hx hb dX1_readFrom_49 rfl (lv_at hl 2 rfl) ?_
              refine lv_iload_n hx hb dX1_readFrom_50 rfl (lv_at hl 3 rfl) ?_
              refine kx_icmp_ne (tgt := 58) hx hb (by omega) (by omega) dX1_readFrom_51 (by decide) (fun h51 => ?_) (fun h51 => ?_)
              · skip
                refine kx_sipush (z := 1000) hx hb dX1_readFrom_58 (by decide) ?_
                refine kx_iast (k := ((v * 6) + w)) (x := 1000) hx hb hK hP hD hS 3 rfl (by omega) (by omega) (by decide) dX1_readFrom_61 (fun H locs hP hD hS => ?_)
                have hP : va_P D vwCl (npW cI cZ n n1 n2 n3 p p1 (tD te 0) ((le - 1) / 4) (va_up gd v 0) nb (va_up gw2 ((v * 6) + w) 1000) le te) H := hP
                have hD : va_D A (npW cI cZ n n1 n2 n3 p p1 (tD te 0) ((le - 1) / 4) (va_up gd v 0) nb (va_up gw2 ((v * 6) + w) 1000) le te) := hD
                refine kx_iinc (z := ((w + 1 : Nat) : Int)) (lv' := [(3, .int (iI ((w + 1 : Nat) : Int))), (0, .ref n), (1, .ref p), (2, .int (iI (v : Int)))]) hx hb dX1_readFrom_62 hl (k0 := 3) rfl (by omega) (by decide) rfl (fun ls hl => ?_)
                refine lv_goto (tgt := 34) hx hb dX1_readFrom_65 (by decide) ?_
                exact ih34 (w + 1) (va_up gw2 ((v * 6) + w) 1000) (by first | assumption | omega) (fun j hj => up_lt hgw2 (by unfold w0; rw [show (v * 6 + w) / 6 = v by omega, show (v * 6 + w) % 6 = w by omega]; first | (rw [if_pos (by omega)]) | (rw [if_neg (by omega)])) j (by omega)) (by omega) H locs hP hD hS ls (lv_sub hl [1, 2, 3, 0] rfl)
              · skip
                refine kx_const (z := 0) hx hb dX1_readFrom_54 rfl ?_
                refine lv_goto (tgt := 61) hx hb dX1_readFrom_55 (by decide) ?_
                refine kx_iast (k := ((v * 6) + w)) (x := 0) hx hb hK hP hD hS 3 rfl (by omega) (by omega) (by decide) dX1_readFrom_61 (fun H locs hP hD hS => ?_)
                have hP : va_P D vwCl (npW cI cZ n n1 n2 n3 p p1 (tD te 0) ((le - 1) / 4) (va_up gd v 0) nb (va_up gw2 ((v * 6) + w) 0) le te) H := hP
                have hD : va_D A (npW cI cZ n n1 n2 n3 p p1 (tD te 0) ((le - 1) / 4) (va_up gd v 0) nb (va_up gw2 ((v * 6) + w) 0) le te) := hD
                refine kx_iinc (z := ((w + 1 : Nat) : Int)) (lv' := [(3, .int (iI ((w + 1 : Nat) : Int))), (0, .ref n), (1, .ref p), (2, .int (iI (v : Int)))]) hx hb dX1_readFrom_62 hl (k0 := 3) rfl (by omega) (by decide) rfl (fun ls hl => ?_)
                refine lv_goto (tgt := 34) hx hb dX1_readFrom_65 (by decide) ?_
                exact ih34 (w + 1) (va_up gw2 ((v * 6) + w) 0) (by first | assumption | omega) (fun j hj => up_lt hgw2 (by unfold w0; rw [show (v * 6 + w) / 6 = v by omega, show (v * 6 + w) % 6 = w by omega]; first | (rw [if_pos (by omega)]) | (rw [if_neg (by omega)])) j (by omega)) (by omega) H locs hP hD hS ls (lv_sub hl [1, 2, 3, 0] rfl)
        exact L34 (6 - 0 + 1) 0 gw (by first | assumption | omega) (hgw) (Nat.lt_succ_self _) H locs hP hD hS ls (lv_sub hl [1, 2, 3, 0] rfl)
  exact L19 (6 - 0 + 1) 0 dg wy (by first | assumption | omega) (fun j hj => absurd hj (Nat.not_lt_zero j)) (fun j hj => absurd hj (by omega)) (Nat.lt_succ_self _) H locs hP hD hS ls (lv_sub hl [1, 2, 0] rfl)
def rm_X0_startFrom : Room := ({ frames := 3, cells := 0, slots := 0, locals := 66 } : Room)
set_option maxHeartbeats 4000000 in
set_option maxRecDepth 100000 in
theorem c_X0_startFrom (l : Launch) (D : va_G) (cI cZ : ClassId) (c c1 c2 c3 c4 c5 c6 n n1 n2 n3 p p1 : Nat) (pa ra fa ft dy er : Nat → Int) (ti gr ah be no li : Int) (dg nb wy : Nat → Int) (le : Int) (te : Nat → Int)  (hle : 0 ≤ le ∧ le ≤ 61) (hte : ∀ k : Nat, k < 61 → 0 ≤ te k ∧ te k ≤ 126) (hnet : fau te le.toNat = le.toNat ∧ 4 < le ∧ le % 4 = 1) (hwy : ∀ k : Nat, k < 36 → 0 ≤ wy k ∧ wy k ≤ 1000) (hno9 : no = tD te 0) (hli9 : li = (le - 1) / 4) (hwl : ∀ i : Nat, i < ((le.toNat - 1) / 4) → wy ((tD te (2 + 4 * i)).toNat * 6 + (tD te (3 + 4 * i)).toNat) = 1) : kWR l yX0_startFrom wsX0_startFrom rm_X0_startFrom D cI cZ [.ref c, .ref p] (cpW cI cZ c c1 c2 c3 c4 c5 c6 n n1 n2 n3 p p1 pa ra fa ft dy er ti gr ah be no li dg nb wy le te) (fun u : Unit => none) (fun u : Unit => True) (fun u : Unit => cpW cI cZ c c1 c2 c3 c4 c5 c6 n n1 n2 n3 p p1 (fun _ => 0) (fun _ => 100) (fun _ => 0) (fun _ => 0) (dS te dy ((le.toNat - 1) / 4)) (fun _ => 0) 0 0 ah be no li dg nb wy le te) 0 0 := by
  refine kx_WRv (cc := cX0_startFrom) (maxL := 4) (by decide) rfl (Nat.le_of_ble_eq_true rfl) ?_
  intro pr en s mi args below meth co Q A hx hb hml hown hts hK hin hA hP hD hS hret ls hl
  have hown : s.vm.findClass RX0 = some mi.cls := hown
  have iX0 : ∀ w ∈ wsX00, w ∈ wsX0_startFrom := by decide +kernel
  have iX1 : ∀ w ∈ wsX10, w ∈ wsX0_startFrom := by decide +kernel
  have hl : lv_has ls 4 [(0, .ref c), (1, .ref p)] := hl
  generalize hH0 : s.heap = H0 at hA hP hS hret ⊢
  obtain ⟨H, hH⟩ : ∃ H : Heap, H = H0 := ⟨_, rfl⟩
  obtain ⟨locs, hlocs⟩ : ∃ locs : List Loc, locs = [] := ⟨_, rfl⟩
  have hS : va_S A H0 H locs := by rw [hH, hlocs]; exact hS
  have hP : va_P D vwCl (cpW cI cZ c c1 c2 c3 c4 c5 c6 n n1 n2 n3 p p1 pa ra fa ft dy er ti gr ah be no li dg nb wy le te) H := by rw [hH]; exact hP
  suffices hgo : W pr l en rm_X0_startFrom s mi args below meth co H locs 0 0 Q (F0 mi 0 ls []) by rw [hH, hlocs] at hgo; exact hgo
  clear hH hlocs
  have hfit := fau_all hnet.1
  have h0 := fit0.mp (hfit 0 (by omega))
  have hlk : lkOK te ((le.toNat - 1) / 4) := lkOK_of hfit (by omega)
  have htd : ∀ j : Nat, (j : Int) < le → pgL te le j - 48 = tD te j := fun j hj => pg_tD hj
  have htz : pgL te le 0 - 48 = tD te 0 := htd 0 (by omega)
  have hno : 0 ≤ no ∧ no ≤ 6 := by omega
  refine lv_aload_n hx hb dX0_startFrom_0 rfl (lv_at hl 0 rfl) ?_
  refine va_get (D := D) (ci := 0) (v := .ref c1) (C := RX0) (T := TX0) (N := 11) hx hb hts iX0 hown hK.1 hP 0 rfl rfl 1 (by decide) (hts (.fieldLink RX0 9 "CloseClocks$Clocks" "past" "[I") (by decide +kernel)) (fun _ h9 => h9) rfl dX0_startFrom_1 ?_
  refine kx_const (z := 0) hx hb dX0_startFrom_4 rfl ?_
  refine kx_cSW (As := [.ref c1, .int (iI 0)]) (rest := []) (wr := [(c, .inr (0, [.ref n, .ref c1, .ref c2, .ref c3, .ref c4, .ref c5, .ref c6, .int (iI ti), .int (iI gr), .int (iI ah), .int (iI be)])), (c2, aI cI 6 ra), (c3, aI cI 6 fa), (c4, aI cI 6 ft), (c5, aI cI 36 dy), (c6, aI cI 36 er), (n, .inr (1, [.ref n1, .ref n2, .ref n3, .int (iI no), .int (iI li)])), (n1, aI cI 6 dg), (n2, aI cI 36 nb), (n3, aI cI 36 wy), (p, .inr (2, [.ref p1, .int (iI le)])), (p1, aI cI 61 te)]) ⟨hx, hb, hml, hown, hts⟩ (c_J7_fill_53178_s24 l D cI cZ c1 pa 0 ) (va_cwS 2 hts gX0_startFrom_J7_fill_53178 rfl rfl rfl (by decide +kernel) ⟨Nat.le_of_ble_eq_true rfl, Nat.le_of_ble_eq_true rfl⟩) hK hP hD hS hA [1] [0, 2, 3, 4, 5, 6, 7, 8, 9, 10, 11, 12] rfl rfl (by decide) (by decide) (by decide) rfl hl.1 rfl (Nat.le_of_ble_eq_true rfl) dX0_startFrom_5 ⟨Nat.le_of_ble_eq_true rfl, Nat.le_of_ble_eq_true rfl⟩ (fun u H locs hq hP hD hS => ?_)
  have hP : va_P D vwCl (cpW cI cZ c c1 c2 c3 c4 c5 c6 n n1 n2 n3 p p1 (fun _ => 0) ra fa ft dy er ti gr ah be no li dg nb wy le te) H := hP.sub [0, 12, 1, 2, 3, 4, 5, 6, 7, 8, 9, 10, 11] rfl
  have hD : va_D A (cpW cI cZ c c1 c2 c3 c4 c5 c6 n n1 n2 n3 p p1 (fun _ => 0) ra fa ft dy er ti gr ah be no li dg nb wy le te) := hD.sub [0, 12, 1, 2, 3, 4, 5, 6, 7, 8, 9, 10, 11] (by decide) rfl
  refine W.eq (g2 := F0 mi 8 ls []) rfl ?_
  refine lv_aload_n hx hb dX0_startFrom_8 rfl (lv_at hl 0 rfl) ?_
  refine va_get (D := D) (ci := 0) (v := .ref c2) (C := RX0) (T := TX0) (N := 11) hx hb hts iX0 hown hK.1 hP 0 rfl rfl 2 (by decide) (hts (.fieldLink RX0 15 "CloseClocks$Clocks" "rates" "[I") (by decide +kernel)) (fun _ h9 => h9) rfl dX0_startFrom_9 ?_
  refine kx_bipush (z := 100) hx hb dX0_startFrom_12 (by decide) ?_
  refine kx_cSW (As := [.ref c2, .int (iI 100)]) (rest := []) (wr := [(c, .inr (0, [.ref n, .ref c1, .ref c2, .ref c3, .ref c4, .ref c5, .ref c6, .int (iI ti), .int (iI gr), .int (iI ah), .int (iI be)])), (c1, aI cI 24 (fun _ => 0)), (c3, aI cI 6 fa), (c4, aI cI 6 ft), (c5, aI cI 36 dy), (c6, aI cI 36 er), (n, .inr (1, [.ref n1, .ref n2, .ref n3, .int (iI no), .int (iI li)])), (n1, aI cI 6 dg), (n2, aI cI 36 nb), (n3, aI cI 36 wy), (p, .inr (2, [.ref p1, .int (iI le)])), (p1, aI cI 61 te)]) ⟨hx, hb, hml, hown, hts⟩ (c_J7_fill_53178_s6 l D cI cZ c2 ra 100 ) (va_cwS 2 hts gX0_startFrom_J7_fill_53178 rfl rfl rfl (by decide +kernel) ⟨Nat.le_of_ble_eq_true rfl, Nat.le_of_ble_eq_true rfl⟩) hK hP hD hS hA [2] [0, 1, 3, 4, 5, 6, 7, 8, 9, 10, 11, 12] rfl rfl (by decide) (by decide) (by decide) rfl hl.1 rfl (Nat.le_of_ble_eq_true rfl) dX0_startFrom_14 ⟨Nat.le_of_ble_eq_true rfl, Nat.le_of_ble_eq_true rfl⟩ (fun u H locs hq hP hD hS => ?_)
  have hP : va_P D vwCl (cpW cI cZ c c1 c2 c3 c4 c5 c6 n n1 n2 n3 p p1 (fun _ => 0) (fun _ => 100) fa ft dy er ti gr ah be no li dg nb wy le te) H := hP.sub [0, 1, 12, 2, 3, 4, 5, 6, 7, 8, 9, 10, 11] rfl
  have hD : va_D A (cpW cI cZ c c1 c2 c3 c4 c5 c6 n n1 n2 n3 p p1 (fun _ => 0) (fun _ => 100) fa ft dy er ti gr ah be no li dg nb wy le te) := hD.sub [0, 1, 12, 2, 3, 4, 5, 6, 7, 8, 9, 10, 11] (by decide) rfl
  refine W.eq (g2 := F0 mi 17 ls []) rfl ?_
  refine lv_aload_n hx hb dX0_startFrom_17 rfl (lv_at hl 0 rfl) ?_
  refine va_get (D := D) (ci := 0) (v := .ref c3) (C := RX0) (T := TX0) (N := 11) hx hb hts iX0 hown hK.1 hP 0 rfl rfl 3 (by decide) (hts (.fieldLink RX0 18 "CloseClocks$Clocks" "fast" "[I") (by decide +kernel)) (fun _ h9 => h9) rfl dX0_startFrom_18 ?_
  refine kx_const (z := 0) hx hb dX0_startFrom_21 rfl ?_
  refine kx_cSW (As := [.ref c3, .int (iI 0)]) (rest := []) (wr := [(c, .inr (0, [.ref n, .ref c1, .ref c2, .ref c3, .ref c4, .ref c5, .ref c6, .int (iI ti), .int (iI gr), .int (iI ah), .int (iI be)])), (c1, aI cI 24 (fun _ => 0)), (c2, aI cI 6 (fun _ => 100)), (c4, aI cI 6 ft), (c5, aI cI 36 dy), (c6, aI cI 36 er), (n, .inr (1, [.ref n1, .ref n2, .ref n3, .int (iI no), .int (iI li)])), (n1, aI cI 6 dg), (n2, aI cI 36 nb), (n3, aI cI 36 wy), (p, .inr (2, [.ref p1, .int (iI le)])), (p1, aI cI 61 te)]) ⟨hx, hb, hml, hown, hts⟩ (c_J7_fill_53178_s6 l D cI cZ c3 fa 0 ) (va_cwS 2 hts gX0_startFrom_J7_fill_53178 rfl rfl rfl (by decide +kernel) ⟨Nat.le_of_ble_eq_true rfl, Nat.le_of_ble_eq_true rfl⟩) hK hP hD hS hA [3] [0, 1, 2, 4, 5, 6, 7, 8, 9, 10, 11, 12] rfl rfl (by decide) (by decide) (by decide) rfl hl.1 rfl (Nat.le_of_ble_eq_true rfl) dX0_startFrom_22 ⟨Nat.le_of_ble_eq_true rfl, Nat.le_of_ble_eq_true rfl⟩ (fun u H locs hq hP hD hS => ?_)
  have hP : va_P D vwCl (cpW cI cZ c c1 c2 c3 c4 c5 c6 n n1 n2 n3 p p1 (fun _ => 0) (fun _ => 100) (fun _ => 0) ft dy er ti gr ah be no li dg nb wy le te) H := hP.sub [0, 1, 2, 12, 3, 4, 5, 6, 7, 8, 9, 10, 11] rfl
  have hD : va_D A (cpW cI cZ c c1 c2 c3 c4 c5 c6 n n1 n2 n3 p p1 (fun _ => 0) (fun _ => 100) (fun _ => 0) ft dy er ti gr ah be no li dg nb wy le te) := hD.sub [0, 1, 2, 12, 3, 4, 5, 6, 7, 8, 9, 10, 11] (by decide) rfl
  refine W.eq (g2 := F0 mi 25 ls []) rfl ?_
  refine lv_aload_n hx hb dX0_startFrom_25 rfl (lv_at hl 0 rfl) ?_
  refine va_get (D := D) (ci := 0) (v := .ref c4) (C := RX0) (T := TX0) (N := 11) hx hb hts iX0 hown hK.1 hP 0 rfl rfl 4 (by decide) (hts (.fieldLink RX0 21 "CloseClocks$Clocks" "fastTicks" "[I") (by decide +kernel)) (fun _ h9 => h9) rfl dX0_startFrom_26 ?_
  refine kx_const (z := 0) hx hb dX0_startFrom_29 rfl ?_
  refine kx_cSW (As := [.ref c4, .int (iI 0)]) (rest := []) (wr := [(c, .inr (0, [.ref n, .ref c1, .ref c2, .ref c3, .ref c4, .ref c5, .ref c6, .int (iI ti), .int (iI gr), .int (iI ah), .int (iI be)])), (c1, aI cI 24 (fun _ => 0)), (c2, aI cI 6 (fun _ => 100)), (c3, aI cI 6 (fun _ => 0)), (c5, aI cI 36 dy), (c6, aI cI 36 er), (n, .inr (1, [.ref n1, .ref n2, .ref n3, .int (iI no), .int (iI li)])), (n1, aI cI 6 dg), (n2, aI cI 36 nb), (n3, aI cI 36 wy), (p, .inr (2, [.ref p1, .int (iI le)])), (p1, aI cI 61 te)]) ⟨hx, hb, hml, hown, hts⟩ (c_J7_fill_53178_s6 l D cI cZ c4 ft 0 ) (va_cwS 2 hts gX0_startFrom_J7_fill_53178 rfl rfl rfl (by decide +kernel) ⟨Nat.le_of_ble_eq_true rfl, Nat.le_of_ble_eq_true rfl⟩) hK hP hD hS hA [4] [0, 1, 2, 3, 5, 6, 7, 8, 9, 10, 11, 12] rfl rfl (by decide) (by decide) (by decide) rfl hl.1 rfl (Nat.le_of_ble_eq_true rfl) dX0_startFrom_30 ⟨Nat.le_of_ble_eq_true rfl, Nat.le_of_ble_eq_true rfl⟩ (fun u H locs hq hP hD hS => ?_)
  have hP : va_P D vwCl (cpW cI cZ c c1 c2 c3 c4 c5 c6 n n1 n2 n3 p p1 (fun _ => 0) (fun _ => 100) (fun _ => 0) (fun _ => 0) dy er ti gr ah be no li dg nb wy le te) H := hP.sub [0, 1, 2, 3, 12, 4, 5, 6, 7, 8, 9, 10, 11] rfl
  have hD : va_D A (cpW cI cZ c c1 c2 c3 c4 c5 c6 n n1 n2 n3 p p1 (fun _ => 0) (fun _ => 100) (fun _ => 0) (fun _ => 0) dy er ti gr ah be no li dg nb wy le te) := hD.sub [0, 1, 2, 3, 12, 4, 5, 6, 7, 8, 9, 10, 11] (by decide) rfl
  refine W.eq (g2 := F0 mi 33 ls []) rfl ?_
  refine lv_aload_n hx hb dX0_startFrom_33 rfl (lv_at hl 0 rfl) ?_
  refine va_get (D := D) (ci := 0) (v := .ref c6) (C := RX0) (T := TX0) (N := 11) hx hb hts iX0 hown hK.1 hP 0 rfl rfl 6 (by decide) (hts (.fieldLink RX0 27 "CloseClocks$Clocks" "errors" "[I") (by decide +kernel)) (fun _ h9 => h9) rfl dX0_startFrom_34 ?_
  refine kx_const (z := 0) hx hb dX0_startFrom_37 rfl ?_
  refine kx_cSW (As := [.ref c6, .int (iI 0)]) (rest := []) (wr := [(c, .inr (0, [.ref n, .ref c1, .ref c2, .ref c3, .ref c4, .ref c5, .ref c6, .int (iI ti), .int (iI gr), .int (iI ah), .int (iI be)])), (c1, aI cI 24 (fun _ => 0)), (c2, aI cI 6 (fun _ => 100)), (c3, aI cI 6 (fun _ => 0)), (c4, aI cI 6 (fun _ => 0)), (c5, aI cI 36 dy), (n, .inr (1, [.ref n1, .ref n2, .ref n3, .int (iI no), .int (iI li)])), (n1, aI cI 6 dg), (n2, aI cI 36 nb), (n3, aI cI 36 wy), (p, .inr (2, [.ref p1, .int (iI le)])), (p1, aI cI 61 te)]) ⟨hx, hb, hml, hown, hts⟩ (c_J7_fill_53178_s36 l D cI cZ c6 er 0 ) (va_cwS 2 hts gX0_startFrom_J7_fill_53178 rfl rfl rfl (by decide +kernel) ⟨Nat.le_of_ble_eq_true rfl, Nat.le_of_ble_eq_true rfl⟩) hK hP hD hS hA [6] [0, 1, 2, 3, 4, 5, 7, 8, 9, 10, 11, 12] rfl rfl (by decide) (by decide) (by decide) rfl hl.1 rfl (Nat.le_of_ble_eq_true rfl) dX0_startFrom_38 ⟨Nat.le_of_ble_eq_true rfl, Nat.le_of_ble_eq_true rfl⟩ (fun u H locs hq hP hD hS => ?_)
  have hP : va_P D vwCl (cpW cI cZ c c1 c2 c3 c4 c5 c6 n n1 n2 n3 p p1 (fun _ => 0) (fun _ => 100) (fun _ => 0) (fun _ => 0) dy (fun _ => 0) ti gr ah be no li dg nb wy le te) H := hP.sub [0, 1, 2, 3, 4, 5, 12, 6, 7, 8, 9, 10, 11] rfl
  have hD : va_D A (cpW cI cZ c c1 c2 c3 c4 c5 c6 n n1 n2 n3 p p1 (fun _ => 0) (fun _ => 100) (fun _ => 0) (fun _ => 0) dy (fun _ => 0) ti gr ah be no li dg nb wy le te) := hD.sub [0, 1, 2, 3, 4, 5, 12, 6, 7, 8, 9, 10, 11] (by decide) rfl
  refine W.eq (g2 := F0 mi 41 ls []) rfl ?_
  refine kx_const (z := 0) hx hb dX0_startFrom_41 rfl ?_
  refine lv_istore_n (lv' := [(2, .int (iI 0)), (0, .ref c), (1, .ref p)]) hx hb dX0_startFrom_42 rfl hl (by decide) rfl (fun ls hl => ?_)
  have L43 : ∀ (fu : Nat) (i : Nat), ((i : Int) ≤ (le - 1) / 4) → ((le.toNat - 1) / 4) - i < fu → ∀ (H : Heap) (locs : List Loc), va_P D vwCl (cpW cI cZ c c1 c2 c3 c4 c5 c6 n n1 n2 n3 p p1 (fun _ => 0) (fun _ => 100) (fun _ => 0) (fun _ => 0) (dS te dy i) (fun _ => 0) ti gr ah be no li dg nb wy le te) H → va_D A (cpW cI cZ c c1 c2 c3 c4 c5 c6 n n1 n2 n3 p p1 (fun _ => 0) (fun _ => 100) (fun _ => 0) (fun _ => 0) (dS te dy i) (fun _ => 0) ti gr ah be no li dg nb wy le te) → va_S A H0 H locs → ∀ ls : Array Slot, lv_has ls 4 [(0, .ref c), (1, .ref p), (2, .int (iI (i : Int)))] → W pr l en rm_X0_startFrom s mi args below meth co H locs 0 0 Q (F0 mi 43 ls []) := by
    intro fu
    induction fu with
    | zero =>
      intro i hi hfu
      exact absurd hfu (Nat.not_lt_zero _)
    | succ fu ih43 =>
      intro i hi hfu H locs hP hD hS ls hl
      refine lv_iload_n hx hb dX0_startFrom_43 rfl (lv_at hl 2 rfl) ?_
      refine lv_aload_n hx hb dX0_startFrom_44 rfl (lv_at hl 0 rfl) ?_
      refine va_get (D := D) (ci := 0) (v := .ref n) (C := RX0) (T := TX0) (N := 11) hx hb hts iX0 hown hK.1 hP 0 rfl rfl 0 (by decide) (hts (.fieldLink RX0 44 "CloseClocks$Clocks" "shape" "LCloseClocks$Net;") (by decide +kernel)) (fun _ h9 => h9) rfl dX0_startFrom_45 ?_
      refine va_getN (D := D) (ci := 1) (v := .int (iI li)) (C := RX1) (T := TX1) (N := 5) hx hb hts iX1 hown hK.1 hP 7 rfl rfl 4 (by decide) (va_Nw.use rfl (hK.2.1 (RX0, 54, RX1, "links", "I") (List.mem_of_getElem? (i := 5) rfl))) (fun _ h9 => h9) rfl dX0_startFrom_48 ?_
      refine kx_icmp_ge (tgt := 88) hx hb (by omega) (by omega) dX0_startFrom_51 (by decide) (fun h51 => ?_) (fun h51 => ?_)
      · skip
        have hie : i = ((le.toNat - 1) / 4) := by omega
        rw [hie] at hP hD
        have hP : va_P D vwCl (cpW cI cZ c c1 c2 c3 c4 c5 c6 n n1 n2 n3 p p1 (fun _ => 0) (fun _ => 100) (fun _ => 0) (fun _ => 0) (dS te dy ((le.toNat - 1) / 4)) (fun _ => 0) ti gr ah be no li dg nb wy le te) H := hP
        have hD : va_D A (cpW cI cZ c c1 c2 c3 c4 c5 c6 n n1 n2 n3 p p1 (fun _ => 0) (fun _ => 100) (fun _ => 0) (fun _ => 0) (dS te dy ((le.toNat - 1) / 4)) (fun _ => 0) ti gr ah be no li dg nb wy le te) := hD
        refine lv_aload_n hx hb dX0_startFrom_88 rfl (lv_at hl 0 rfl) ?_
        refine kx_const (z := 0) hx hb dX0_startFrom_89 rfl ?_
        refine va_put (D := D) (ci := 0) (v := .int (iI 0)) (ty := .int) (C := RX0) (T := TX0) (N := 11) hx hb hts iX0 tyX0 tyX0_ok nmX0 hown hK.1 hP hD hS 0 rfl rfl 7 (by decide) (hts (.fieldLink RX0 30 "CloseClocks$Clocks" "ticks" "I") (by decide +kernel)) (fun _ h9 => h9) rfl (by decide +kernel) rfl rfl (Nat.le_of_ble_eq_true rfl) dX0_startFrom_90 (fun H locs hP hD hS => ?_)
        have hP : va_P D vwCl (cpW cI cZ c c1 c2 c3 c4 c5 c6 n n1 n2 n3 p p1 (fun _ => 0) (fun _ => 100) (fun _ => 0) (fun _ => 0) (dS te dy ((le.toNat - 1) / 4)) (fun _ => 0) 0 gr ah be no li dg nb wy le te) H := hP
        have hD : va_D A (cpW cI cZ c c1 c2 c3 c4 c5 c6 n n1 n2 n3 p p1 (fun _ => 0) (fun _ => 100) (fun _ => 0) (fun _ => 0) (dS te dy ((le.toNat - 1) / 4)) (fun _ => 0) 0 gr ah be no li dg nb wy le te) := hD
        refine lv_aload_n hx hb dX0_startFrom_93 rfl (lv_at hl 0 rfl) ?_
        refine kx_const (z := 0) hx hb dX0_startFrom_94 rfl ?_
        refine va_put (D := D) (ci := 0) (v := .int (iI 0)) (ty := .int) (C := RX0) (T := TX0) (N := 11) hx hb hts iX0 tyX0 tyX0_ok nmX0 hown hK.1 hP hD hS 0 rfl rfl 8 (by decide) (hts (.fieldLink RX0 34 "CloseClocks$Clocks" "greatestLocal" "I") (by decide +kernel)) (fun _ h9 => h9) rfl (by decide +kernel) rfl rfl (Nat.le_of_ble_eq_true rfl) dX0_startFrom_95 (fun H locs hP hD hS => ?_)
        have hP : va_P D vwCl (cpW cI cZ c c1 c2 c3 c4 c5 c6 n n1 n2 n3 p p1 (fun _ => 0) (fun _ => 100) (fun _ => 0) (fun _ => 0) (dS te dy ((le.toNat - 1) / 4)) (fun _ => 0) 0 0 ah be no li dg nb wy le te) H := hP
        have hD : va_D A (cpW cI cZ c c1 c2 c3 c4 c5 c6 n n1 n2 n3 p p1 (fun _ => 0) (fun _ => 100) (fun _ => 0) (fun _ => 0) (dS te dy ((le.toNat - 1) / 4)) (fun _ => 0) 0 0 ah be no li dg nb wy le te) := hD
        exact hret () H locs _ _ (trivial) hP hD hS dX0_startFrom_98
      · skip
        have hli := hlk i (by omega)
        have t2 := htd (2 + 4 * i) (by omega)
        have t3 := htd (3 + 4 * i) (by omega)
        have t4 := htd (4 + 4 * i) (by omega)
        refine lv_iload_n hx hb dX0_startFrom_54 rfl (lv_at hl 2 rfl) ?_
        refine kx_cS (As := [.int (iI (i : Int))]) (rest := []) (st1 := [.int (iI (2 + (4 * (i : Int))))]) ⟨hx, hb, hml, hown, hts⟩ (c_X2_placeOfLink l D cI cZ (i : Int) ) (va_cwS 1 hts gX0_startFrom_X2_placeOfLink rfl rfl rfl (by decide +kernel) ⟨Nat.le_of_ble_eq_true rfl, Nat.le_of_ble_eq_true rfl⟩) hK (hP.sub (ws' := []) [] rfl) rfl hl.1 rfl (Nat.le_of_ble_eq_true rfl) dX0_startFrom_55 ⟨Nat.zero_le _, Nat.zero_le _⟩ rfl ?_
        refine kx_top (b := ((2 + 4 * i : Nat) : Int)) (by omega) ?_
        refine lv_istore_n (lv' := [(3, .int (iI ((2 + 4 * i : Nat) : Int))), (0, .ref c), (1, .ref p), (2, .int (iI (i : Int)))]) hx hb dX0_startFrom_58 rfl hl (by decide) rfl (fun ls hl => ?_)
        refine lv_aload_n hx hb dX0_startFrom_59 rfl (lv_at hl 1 rfl) ?_
        refine lv_aload_n hx hb dX0_startFrom_60 rfl (lv_at hl 2 rfl) ?_
        refine lv_iload_n hx hb dX0_startFrom_61 rfl (lv_at hl 0 rfl) ?_
        refine kx_cV (As := [.int (iI ((2 + 4 * i : Nat) : Int))]) (rest := [.ref c]) (st1 := [.int (iI ((pgL te le ((2 + 4 * i : Nat) : Int)) - 48)), .ref c]) (q0 := 0) (ci := 2) ⟨hx, hb, hml, hown, hts⟩ (c_X2_digitAt l D cI cZ p p1 le te ((2 + 4 * i : Nat) : Int) (by first | assumption | omega) (by first | assumption | omega)) (cwV 1 hts gX0_startFrom_X2_digitAt rfl rfl rfl (by decide +kernel) ⟨Nat.le_of_ble_eq_true rfl, Nat.le_of_ble_eq_true rfl⟩) hK (hP.sub (ws' := pgW cI cZ p p1 le te) [11, 12] rfl) rfl rfl rfl hl.1 rfl (Nat.le_of_ble_eq_true rfl) dX0_startFrom_62 ⟨Nat.zero_le _, Nat.zero_le _⟩ rfl ?_
        refine kx_top (b := (((tD te (2 + 4 * i)).toNat : Nat) : Int)) (by omega) ?_
        refine lv_aload_n hx hb dX0_startFrom_65 rfl (lv_at hl 2 rfl) ?_
        refine lv_iload_n hx hb dX0_startFrom_66 rfl (lv_at hl 0 rfl) ?_
        refine kx_const (z := 1) hx hb dX0_startFrom_67 rfl ?_
        refine kx_iadd hx hb dX0_startFrom_68 ?_
        refine kx_top (b := ((3 + 4 * i : Nat) : Int)) (by omega) ?_
        refine kx_cV (As := [.int (iI ((3 + 4 * i : Nat) : Int))]) (rest := [.int (iI (((tD te (2 + 4 * i)).toNat : Nat) : Int)), .ref c]) (st1 := [.int (iI ((pgL te le ((3 + 4 * i : Nat) : Int)) - 48)), .int (iI (((tD te (2 + 4 * i)).toNat : Nat) : Int)), .ref c]) (q0 := 0) (ci := 2) ⟨hx, hb, hml, hown, hts⟩ (c_X2_digitAt l D cI cZ p p1 le te ((3 + 4 * i : Nat) : Int) (by first | assumption | omega) (by first | assumption | omega)) (cwV 1 hts gX0_startFrom_X2_digitAt rfl rfl rfl (by decide +kernel) ⟨Nat.le_of_ble_eq_true rfl, Nat.le_of_ble_eq_true rfl⟩) hK (hP.sub (ws' := pgW cI cZ p p1 le te) [11, 12] rfl) rfl rfl rfl hl.1 rfl (Nat.le_of_ble_eq_true rfl) dX0_startFrom_69 ⟨Nat.zero_le _, Nat.zero_le _⟩ rfl ?_
        refine kx_top (b := (((tD te (3 + 4 * i)).toNat : Nat) : Int)) (by omega) ?_
        refine lv_aload_n hx hb dX0_startFrom_72 rfl (lv_at hl 2 rfl) ?_
        refine lv_iload_n hx hb dX0_startFrom_73 rfl (lv_at hl 0 rfl) ?_
        refine kx_const (z := 2) hx hb dX0_startFrom_74 rfl ?_
        refine kx_iadd hx hb dX0_startFrom_75 ?_
        refine kx_top (b := ((4 + 4 * i : Nat) : Int)) (by omega) ?_
        refine kx_cV (As := [.int (iI ((4 + 4 * i : Nat) : Int))]) (rest := [.int (iI (((tD te (3 + 4 * i)).toNat : Nat) : Int)), .int (iI (((tD te (2 + 4 * i)).toNat : Nat) : Int)), .ref c]) (st1 := [.int (iI ((pgL te le ((4 + 4 * i : Nat) : Int)) - 48)), .int (iI (((tD te (3 + 4 * i)).toNat : Nat) : Int)), .int (iI (((tD te (2 + 4 * i)).toNat : Nat) : Int)), .ref c]) (q0 := 0) (ci := 2) ⟨hx, hb, hml, hown, hts⟩ (c_X2_digitAt l D cI cZ p p1 le te ((4 + 4 * i : Nat) : Int) (by first | assumption | omega) (by first | assumption | omega)) (cwV 1 hts gX0_startFrom_X2_digitAt rfl rfl rfl (by decide +kernel) ⟨Nat.le_of_ble_eq_true rfl, Nat.le_of_ble_eq_true rfl⟩) hK (hP.sub (ws' := pgW cI cZ p p1 le te) [11, 12] rfl) rfl rfl rfl hl.1 rfl (Nat.le_of_ble_eq_true rfl) dX0_startFrom_76 ⟨Nat.zero_le _, Nat.zero_le _⟩ rfl ?_
        refine kx_top (b := (tD te (4 + 4 * i))) (t4) ?_
        refine kx_cVW (As := [.int (iI (((tD te (2 + 4 * i)).toNat : Nat) : Int)), .int (iI (((tD te (3 + 4 * i)).toNat : Nat) : Int)), .int (iI (tD te (4 + 4 * i)))]) (rest := []) (wr := [(p, .inr (2, [.ref p1, .int (iI le)])), (p1, aI cI 61 te)]) (q0 := 0) (ci := 0) ⟨hx, hb, hml, hown, hts⟩ (c_X0_tellDelay l D cI cZ c c1 c2 c3 c4 c5 c6 n n1 n2 n3 (fun _ => 0) (fun _ => 100) (fun _ => 0) (fun _ => 0) (dS te dy i) (fun _ => 0) ti gr ah be no li dg nb wy ((tD te (2 + 4 * i)).toNat) ((tD te (3 + 4 * i)).toNat) (tD te (4 + 4 * i)) (by first | assumption | omega) (by first | assumption | omega) (by first | assumption | omega) (by first | assumption | omega) (hwl i (by omega))) (cwV 3 hts gX0_startFrom_X0_tellDelay rfl rfl rfl (by decide +kernel) ⟨Nat.le_of_ble_eq_true rfl, Nat.le_of_ble_eq_true rfl⟩) hK hP hD hS hA [0, 1, 2, 3, 4, 5, 6, 7, 8, 9, 10] [11, 12] rfl rfl (by decide) (by decide) (by decide) rfl rfl rfl hl.1 rfl (Nat.le_of_ble_eq_true rfl) dX0_startFrom_79 ⟨Nat.le_of_ble_eq_true rfl, Nat.le_of_ble_eq_true rfl⟩ (fun u H locs hq hP hD hS => ?_)
        have hP : va_P D vwCl (cpW cI cZ c c1 c2 c3 c4 c5 c6 n n1 n2 n3 p p1 (fun _ => 0) (fun _ => 100) (fun _ => 0) (fun _ => 0) (va_up (va_up (dS te dy i) (((tD te (2 + 4 * i)).toNat) * 6 + ((tD te (3 + 4 * i)).toNat)) (tD te (4 + 4 * i))) (((tD te (3 + 4 * i)).toNat) * 6 + ((tD te (2 + 4 * i)).toNat)) (tD te (4 + 4 * i))) (fun _ => 0) ti gr ah be no li dg nb wy le te) H := hP.sub [2, 3, 4, 5, 6, 7, 8, 9, 10, 11, 12, 0, 1] rfl
        have hD : va_D A (cpW cI cZ c c1 c2 c3 c4 c5 c6 n n1 n2 n3 p p1 (fun _ => 0) (fun _ => 100) (fun _ => 0) (fun _ => 0) (va_up (va_up (dS te dy i) (((tD te (2 + 4 * i)).toNat) * 6 + ((tD te (3 + 4 * i)).toNat)) (tD te (4 + 4 * i))) (((tD te (3 + 4 * i)).toNat) * 6 + ((tD te (2 + 4 * i)).toNat)) (tD te (4 + 4 * i))) (fun _ => 0) ti gr ah be no li dg nb wy le te) := hD.sub [2, 3, 4, 5, 6, 7, 8, 9, 10, 11, 12, 0, 1] (by decide) rfl
        refine W.eq (g2 := F0 mi 82 ls []) rfl ?_
        refine kx_iinc (z := ((i + 1 : Nat) : Int)) (lv' := [(2, .int (iI ((i + 1 : Nat) : Int))), (3, .int (iI ((2 + 4 * i : Nat) : Int))), (0, .ref c), (1, .ref p)]) hx hb dX0_startFrom_82 hl (k0 := 3) rfl (by omega) (by decide) rfl (fun ls hl => ?_)
        refine lv_goto (tgt := 43) hx hb dX0_startFrom_85 (by decide) ?_
        exact ih43 (i + 1) (by first | assumption | omega) (by omega) H locs hP hD hS ls (lv_sub hl [2, 3, 0] rfl)
  exact L43 (((le.toNat - 1) / 4) - 0 + 1) 0 (by first | assumption | omega) (Nat.lt_succ_self _) H locs hP hD hS ls (lv_sub hl [1, 2, 0] rfl)
