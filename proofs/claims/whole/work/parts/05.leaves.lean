def rm_X3_cell : Room := ({ frames := 0, cells := 0, slots := 0, locals := 0 } : Room)
set_option maxHeartbeats 4000000 in
set_option maxRecDepth 100000 in
theorem c_X3_cell (l : Launch) (D : va_G) (cI cZ : ClassId)  (a b : Int)  : kRO l yX3_cell wsX3_cell rm_X3_cell D cI cZ [.int (iI a), .int (iI b)] ([]) (some (.int (iI ((a * 6) + b)))) := by
  refine kx_ROi (cc := cX3_cell) (maxL := 2) (by decide) rfl (Nat.le_of_ble_eq_true rfl) ?_
  intro pr en s mi args below meth co Q hx hb hml hown hts hK hP hret ls hl
  have hown : s.vm.findClass RX3 = some mi.cls := hown
  have hl : lv_has ls 2 [(0, .int (iI a)), (1, .int (iI b))] := hl
  refine lv_iload_n hx hb dX3_cell_0 rfl (lv_at hl 0 rfl) ?_
  refine kx_bipush (z := 6) hx hb dX3_cell_1 (by decide) ?_
  refine kx_imul hx hb dX3_cell_3 ?_
  refine lv_iload_n hx hb dX3_cell_4 rfl (lv_at hl 1 rfl) ?_
  refine kx_iadd hx hb dX3_cell_5 ?_
  exact hret _ _ dX3_cell_6
def rm_X3_dividedUp : Room := ({ frames := 0, cells := 0, slots := 0, locals := 0 } : Room)
set_option maxHeartbeats 4000000 in
set_option maxRecDepth 100000 in
theorem c_X3_dividedUp (l : Launch) (D : va_G) (cI cZ : ClassId)  (a b : Int) (ha : 0 ≤ a ∧ a ≤ 1000000000) (hb2 : 0 ≤ b ∧ b ≤ 1000000) : kRO l yX3_dividedUp wsX3_dividedUp rm_X3_dividedUp D cI cZ [.int (iI a), .int (iI b)] ([]) (some (.int (iI (dvU a b)))) := by
  refine kx_ROi (cc := cX3_dividedUp) (maxL := 2) (by decide) rfl (Nat.le_of_ble_eq_true rfl) ?_
  intro pr en s mi args below meth co Q hx hb hml hown hts hK hP hret ls hl
  have hown : s.vm.findClass RX3 = some mi.cls := hown
  have hl : lv_has ls 2 [(0, .int (iI a)), (1, .int (iI b))] := hl
  refine lv_iload_n hx hb dX3_dividedUp_0 rfl (lv_at hl 1 rfl) ?_
  refine kx_const (z := 1) hx hb dX3_dividedUp_1 rfl ?_
  refine kx_icmp_ge (tgt := 9) hx hb (by omega) (by omega) dX3_dividedUp_2 (by decide) (fun h2 => ?_) (fun h2 => ?_)
  · skip
    refine lv_iload_n hx hb dX3_dividedUp_9 rfl (lv_at hl 0 rfl) ?_
    refine lv_iload_n hx hb dX3_dividedUp_10 rfl (lv_at hl 1 rfl) ?_
    refine kx_iadd hx hb dX3_dividedUp_11 ?_
    refine kx_const (z := 1) hx hb dX3_dividedUp_12 rfl ?_
    refine kx_isub hx hb dX3_dividedUp_13 ?_
    refine lv_iload_n hx hb dX3_dividedUp_14 rfl (lv_at hl 1 rfl) ?_
    refine kx_idiv hx hb (by omega) (by omega) dX3_dividedUp_15 ?_
    refine kx_top (b := (dvU a b)) (by first | (rw [dvU, if_pos (by omega)]) | (rw [dvU, if_neg (by omega)])) ?_
    exact hret _ _ dX3_dividedUp_16
  · skip
    refine kx_const (z := 0) hx hb dX3_dividedUp_5 rfl ?_
    refine lv_goto (tgt := 16) hx hb dX3_dividedUp_6 (by decide) ?_
    refine kx_top (b := (dvU a b)) (by first | (rw [dvU, if_pos (by omega)]) | (rw [dvU, if_neg (by omega)])) ?_
    exact hret _ _ dX3_dividedUp_16
def rm_X3_levelReaching : Room := ({ frames := 1, cells := 0, slots := 0, locals := 21 } : Room)
set_option maxHeartbeats 4000000 in
set_option maxRecDepth 100000 in
theorem c_X3_levelReaching (l : Launch) (D : va_G) (cI cZ : ClassId)  (a b : Int) (ha : -1000000000 ≤ a ∧ a ≤ 1000000000) (hb2 : 1 ≤ b ∧ b ≤ 500) : kRO l yX3_levelReaching wsX3_levelReaching rm_X3_levelReaching D cI cZ [.int (iI a), .int (iI b)] ([]) (some (.int (iI (lvR a b)))) := by
  refine kx_ROi (cc := cX3_levelReaching) (maxL := 2) (by decide) rfl (Nat.le_of_ble_eq_true rfl) ?_
  intro pr en s mi args below meth co Q hx hb hml hown hts hK hP hret ls hl
  have hown : s.vm.findClass RX3 = some mi.cls := hown
  have hl : lv_has ls 2 [(0, .int (iI a)), (1, .int (iI b))] := hl
  refine lv_iload_n hx hb dX3_levelReaching_0 rfl (lv_at hl 0 rfl) ?_
  refine lv_iload_n hx hb dX3_levelReaching_1 rfl (lv_at hl 1 rfl) ?_
  refine kx_icmp_gt (tgt := 9) hx hb (by omega) (by omega) dX3_levelReaching_2 (by decide) (fun h2 => ?_) (fun h2 => ?_)
  · skip
    refine lv_iload_n hx hb dX3_levelReaching_9 rfl (lv_at hl 0 rfl) ?_
    refine lv_iload_n hx hb dX3_levelReaching_10 rfl (lv_at hl 1 rfl) ?_
    refine kx_isub hx hb dX3_levelReaching_11 ?_
    refine kx_const (z := 2) hx hb dX3_levelReaching_12 rfl ?_
    refine lv_iload_n hx hb dX3_levelReaching_13 rfl (lv_at hl 1 rfl) ?_
    refine kx_imul hx hb dX3_levelReaching_14 ?_
    refine kx_cS (As := [.int (iI (a - b)), .int (iI (2 * b))]) (rest := []) (st1 := [.int (iI (dvU (a - b) (2 * b)))]) ⟨hx, hb, hml, hown, hts⟩ (c_X3_dividedUp l D cI cZ (a - b) (2 * b) (by first | assumption | omega) (by first | assumption | omega)) (va_cwS 2 hts gX3_levelReaching_X3_dividedUp rfl rfl rfl (by decide +kernel) ⟨Nat.le_of_ble_eq_true rfl, Nat.le_of_ble_eq_true rfl⟩) hK hP rfl hl.1 rfl (Nat.le_of_ble_eq_true rfl) dX3_levelReaching_15 ⟨Nat.zero_le _, Nat.zero_le _⟩ rfl ?_
    refine kx_top (b := (lvR a b)) (by first | (rw [lvR, if_pos (by omega)]) | (rw [lvR, if_neg (by omega)])) ?_
    exact hret _ _ dX3_levelReaching_18
  · skip
    refine kx_const (z := 0) hx hb dX3_levelReaching_5 rfl ?_
    refine lv_goto (tgt := 18) hx hb dX3_levelReaching_6 (by decide) ?_
    refine kx_top (b := (lvR a b)) (by first | (rw [lvR, if_pos (by omega)]) | (rw [lvR, if_neg (by omega)])) ?_
    exact hret _ _ dX3_levelReaching_18
def rm_X2_isFull : Room := ({ frames := 0, cells := 0, slots := 0, locals := 0 } : Room)
set_option maxHeartbeats 4000000 in
set_option maxRecDepth 100000 in
theorem c_X2_isFull (l : Launch) (D : va_G) (cI cZ : ClassId) (p p1 : Nat) (le : Int) (te : Nat → Int)  (hle : 0 ≤ le ∧ le ≤ 61) : kRO l yX2_isFull wsX2_isFull rm_X2_isFull D cI cZ [.ref p] (pgW cI cZ p p1 le te) (some (.int (iI (if 61 ≤ le then 1 else 0)))) := by
  refine kx_ROz (cc := cX2_isFull) (maxL := 1) (by decide) rfl (Nat.le_of_ble_eq_true rfl) ?_
  intro pr en s mi args below meth co Q hx hb hml hown hts hK hP hret ls hl
  have hown : s.vm.findClass RX2 = some mi.cls := hown
  have iX2 : ∀ w ∈ wsX20, w ∈ wsX2_isFull := by decide +kernel
  have hl : lv_has ls 1 [(0, .ref p)] := hl
  refine lv_aload_n hx hb dX2_isFull_0 rfl (lv_at hl 0 rfl) ?_
  refine va_get (D := D) (ci := 2) (v := .int (iI le)) (C := RX2) (T := TX2) (N := 2) hx hb hts iX2 hown hK.1 hP 0 rfl rfl 1 (by decide) (hts (.fieldLink RX2 15 "CloseClocks$Page" "length" "I") (by decide +kernel)) (fun _ h9 => h9) rfl dX2_isFull_1 ?_
  refine kx_bipush (z := 61) hx hb dX2_isFull_4 (by decide) ?_
  refine kx_icmp_lt (tgt := 13) hx hb (by omega) (by omega) dX2_isFull_6 (by decide) (fun h6 => ?_) (fun h6 => ?_)
  · skip
    refine kx_const (z := 0) hx hb dX2_isFull_13 rfl ?_
    exact hret 0 _ _ (Or.inr ⟨rfl, by first | omega | simp_all⟩) dX2_isFull_14
  · skip
    refine kx_const (z := 1) hx hb dX2_isFull_9 rfl ?_
    refine lv_goto (tgt := 14) hx hb dX2_isFull_10 (by decide) ?_
    exact hret 1 _ _ (Or.inl ⟨rfl, by first | omega | simp_all | (refine ⟨?_, ?_⟩ <;> omega)⟩) dX2_isFull_14
def rm_X2_append : Room := ({ frames := 0, cells := 0, slots := 0, locals := 0 } : Room)
set_option maxHeartbeats 4000000 in
set_option maxRecDepth 100000 in
theorem c_X2_append (l : Launch) (D : va_G) (cI cZ : ClassId) (p p1 : Nat) (le : Int) (te : Nat → Int) (z : Int) (hle : 0 ≤ le ∧ le < 61) : kWR l yX2_append wsX2_append rm_X2_append D cI cZ [.ref p, .int (iI z)] (pgW cI cZ p p1 le te) (fun u : Unit => some (.int (iI (le + 1)))) (fun u : Unit => True) (fun u : Unit => pgW cI cZ p p1 (le + 1) (va_up te le.toNat z)) 0 0 := by
  refine kx_WRi (cc := cX2_append) (maxL := 2) (by decide) rfl (Nat.le_of_ble_eq_true rfl) ?_
  intro pr en s mi args below meth co Q A hx hb hml hown hts hK hin hA hP hD hS hret ls hl
  have hown : s.vm.findClass RX2 = some mi.cls := hown
  have iX2 : ∀ w ∈ wsX20, w ∈ wsX2_append := by decide +kernel
  have hl : lv_has ls 2 [(0, .ref p), (1, .int (iI z))] := hl
  generalize hH0 : s.heap = H0 at hA hP hS hret ⊢
  obtain ⟨H, hH⟩ : ∃ H : Heap, H = H0 := ⟨_, rfl⟩
  obtain ⟨locs, hlocs⟩ : ∃ locs : List Loc, locs = [] := ⟨_, rfl⟩
  have hS : va_S A H0 H locs := by rw [hH, hlocs]; exact hS
  have hP : va_P D vwCl (pgW cI cZ p p1 le te) H := by rw [hH]; exact hP
  suffices hgo : W pr l en rm_X2_append s mi args below meth co H locs 0 0 Q (F0 mi 0 ls []) by rw [hH, hlocs] at hgo; exact hgo
  clear hH hlocs
  refine lv_aload_n hx hb dX2_append_0 rfl (lv_at hl 0 rfl) ?_
  refine va_get (D := D) (ci := 2) (v := .int (iI le)) (C := RX2) (T := TX2) (N := 2) hx hb hts iX2 hown hK.1 hP 0 rfl rfl 1 (by decide) (hts (.fieldLink RX2 15 "CloseClocks$Page" "length" "I") (by decide +kernel)) (fun _ h9 => h9) rfl dX2_append_1 ?_
  refine kx_bipush (z := 61) hx hb dX2_append_4 (by decide) ?_
  refine kx_icmp_ge (tgt := 29) hx hb (by omega) (by omega) dX2_append_6 (by decide) (fun h6 => ?_) (fun h6 => ?_)
  · skip
    exfalso; omega
  · skip
    refine lv_aload_n hx hb dX2_append_9 rfl (lv_at hl 0 rfl) ?_
    refine va_get (D := D) (ci := 2) (v := .ref p1) (C := RX2) (T := TX2) (N := 2) hx hb hts iX2 hown hK.1 hP 0 rfl rfl 0 (by decide) (hts (.fieldLink RX2 9 "CloseClocks$Page" "letters" "[I") (by decide +kernel)) (fun _ h9 => h9) rfl dX2_append_10 ?_
    refine lv_aload_n hx hb dX2_append_13 rfl (lv_at hl 0 rfl) ?_
    refine va_get (D := D) (ci := 2) (v := .int (iI le)) (C := RX2) (T := TX2) (N := 2) hx hb hts iX2 hown hK.1 hP 0 rfl rfl 1 (by decide) (hts (.fieldLink RX2 15 "CloseClocks$Page" "length" "I") (by decide +kernel)) (fun _ h9 => h9) rfl dX2_append_14 ?_
    refine lv_iload_n hx hb dX2_append_17 rfl (lv_at hl 1 rfl) ?_
    refine kx_iast (k := le.toNat) (x := z) hx hb hK hP hD hS 1 rfl (by omega) (by omega) (by decide) dX2_append_18 (fun H locs hP hD hS => ?_)
    have hP : va_P D vwCl (pgW cI cZ p p1 le (va_up te le.toNat z)) H := hP
    have hD : va_D A (pgW cI cZ p p1 le (va_up te le.toNat z)) := hD
    refine lv_aload_n hx hb dX2_append_19 rfl (lv_at hl 0 rfl) ?_
    refine lv_dup hx hb dX2_append_20 rfl ?_
    refine va_get (D := D) (ci := 2) (v := .int (iI le)) (C := RX2) (T := TX2) (N := 2) hx hb hts iX2 hown hK.1 hP 0 rfl rfl 1 (by decide) (hts (.fieldLink RX2 15 "CloseClocks$Page" "length" "I") (by decide +kernel)) (fun _ h9 => h9) rfl dX2_append_21 ?_
    refine kx_const (z := 1) hx hb dX2_append_24 rfl ?_
    refine kx_iadd hx hb dX2_append_25 ?_
    refine va_put (D := D) (ci := 2) (v := .int (iI (le + 1))) (ty := .int) (C := RX2) (T := TX2) (N := 2) hx hb hts iX2 tyX2 tyX2_ok nmX2 hown hK.1 hP hD hS 0 rfl rfl 1 (by decide) (hts (.fieldLink RX2 15 "CloseClocks$Page" "length" "I") (by decide +kernel)) (fun _ h9 => h9) rfl (by decide +kernel) rfl rfl (Nat.le_of_ble_eq_true rfl) dX2_append_26 (fun H locs hP hD hS => ?_)
    have hP : va_P D vwCl (pgW cI cZ p p1 (le + 1) (va_up te le.toNat z)) H := hP
    have hD : va_D A (pgW cI cZ p p1 (le + 1) (va_up te le.toNat z)) := hD
    refine lv_aload_n hx hb dX2_append_29 rfl (lv_at hl 0 rfl) ?_
    refine va_get (D := D) (ci := 2) (v := .int (iI (le + 1))) (C := RX2) (T := TX2) (N := 2) hx hb hts iX2 hown hK.1 hP 0 rfl rfl 1 (by decide) (hts (.fieldLink RX2 15 "CloseClocks$Page" "length" "I") (by decide +kernel)) (fun _ h9 => h9) rfl dX2_append_30 ?_
    refine kx_topx (b := iI (le + 1)) (by rfl) ?_
    exact hret () H locs _ _ (trivial) hP hD hS dX2_append_33
def rm_X2_empty : Room := ({ frames := 0, cells := 0, slots := 0, locals := 0 } : Room)
set_option maxHeartbeats 4000000 in
set_option maxRecDepth 100000 in
theorem c_X2_empty (l : Launch) (D : va_G) (cI cZ : ClassId) (p p1 : Nat) (le : Int) (te : Nat → Int)   : kWR l yX2_empty wsX2_empty rm_X2_empty D cI cZ [.ref p] (pgW cI cZ p p1 le te) (fun u : Unit => some (.int (iI le))) (fun u : Unit => True) (fun u : Unit => pgW cI cZ p p1 0 te) 0 0 := by
  refine kx_WRi (cc := cX2_empty) (maxL := 2) (by decide) rfl (Nat.le_of_ble_eq_true rfl) ?_
  intro pr en s mi args below meth co Q A hx hb hml hown hts hK hin hA hP hD hS hret ls hl
  have hown : s.vm.findClass RX2 = some mi.cls := hown
  have iX2 : ∀ w ∈ wsX20, w ∈ wsX2_empty := by decide +kernel
  have hl : lv_has ls 2 [(0, .ref p)] := hl
  generalize hH0 : s.heap = H0 at hA hP hS hret ⊢
  obtain ⟨H, hH⟩ : ∃ H : Heap, H = H0 := ⟨_, rfl⟩
  obtain ⟨locs, hlocs⟩ : ∃ locs : List Loc, locs = [] := ⟨_, rfl⟩
  have hS : va_S A H0 H locs := by rw [hH, hlocs]; exact hS
  have hP : va_P D vwCl (pgW cI cZ p p1 le te) H := by rw [hH]; exact hP
  suffices hgo : W pr l en rm_X2_empty s mi args below meth co H locs 0 0 Q (F0 mi 0 ls []) by rw [hH, hlocs] at hgo; exact hgo
  clear hH hlocs
  refine lv_aload_n hx hb dX2_empty_0 rfl (lv_at hl 0 rfl) ?_
  refine va_get (D := D) (ci := 2) (v := .int (iI le)) (C := RX2) (T := TX2) (N := 2) hx hb hts iX2 hown hK.1 hP 0 rfl rfl 1 (by decide) (hts (.fieldLink RX2 15 "CloseClocks$Page" "length" "I") (by decide +kernel)) (fun _ h9 => h9) rfl dX2_empty_1 ?_
  refine lv_istore_n (lv' := [(1, .int (iI le)), (0, .ref p)]) hx hb dX2_empty_4 rfl hl (by decide) rfl (fun ls hl => ?_)
  refine lv_aload_n hx hb dX2_empty_5 rfl (lv_at hl 1 rfl) ?_
  refine kx_const (z := 0) hx hb dX2_empty_6 rfl ?_
  refine va_put (D := D) (ci := 2) (v := .int (iI 0)) (ty := .int) (C := RX2) (T := TX2) (N := 2) hx hb hts iX2 tyX2 tyX2_ok nmX2 hown hK.1 hP hD hS 0 rfl rfl 1 (by decide) (hts (.fieldLink RX2 15 "CloseClocks$Page" "length" "I") (by decide +kernel)) (fun _ h9 => h9) rfl (by decide +kernel) rfl rfl (Nat.le_of_ble_eq_true rfl) dX2_empty_7 (fun H locs hP hD hS => ?_)
  have hP : va_P D vwCl (pgW cI cZ p p1 0 te) H := hP
  have hD : va_D A (pgW cI cZ p p1 0 te) := hD
  refine lv_iload_n hx hb dX2_empty_10 rfl (lv_at hl 0 rfl) ?_
  refine kx_topx (b := iI le) (by rfl) ?_
  exact hret () H locs _ _ (trivial) hP hD hS dX2_empty_11
def rm_X2_letterAt : Room := ({ frames := 0, cells := 0, slots := 0, locals := 0 } : Room)
set_option maxHeartbeats 4000000 in
set_option maxRecDepth 100000 in
theorem c_X2_letterAt (l : Launch) (D : va_G) (cI cZ : ClassId) (p p1 : Nat) (le : Int) (te : Nat → Int) (z : Int) (hle : 0 ≤ le ∧ le ≤ 61) (hz : -2147483648 ≤ z ∧ z < 2147483648) : kRO l yX2_letterAt wsX2_letterAt rm_X2_letterAt D cI cZ [.ref p, .int (iI z)] (pgW cI cZ p p1 le te) (some (.int (iI (pgL te le z)))) := by
  refine kx_ROi (cc := cX2_letterAt) (maxL := 2) (by decide) rfl (Nat.le_of_ble_eq_true rfl) ?_
  intro pr en s mi args below meth co Q hx hb hml hown hts hK hP hret ls hl
  have hown : s.vm.findClass RX2 = some mi.cls := hown
  have iX2 : ∀ w ∈ wsX20, w ∈ wsX2_letterAt := by decide +kernel
  have hl : lv_has ls 2 [(0, .ref p), (1, .int (iI z))] := hl
  refine lv_iload_n hx hb dX2_letterAt_0 rfl (lv_at hl 1 rfl) ?_
  refine kx_if_lt (tgt := 21) hx hb (by omega) dX2_letterAt_1 (by decide) (fun h1 => ?_) (fun h1 => ?_)
  · skip
    refine kx_ldc (z := -100000001) hx hb hown (hts (.constant RX2 19 (-100000001)) (by decide +kernel)) dX2_letterAt_21 (by decide) ?_
    refine kx_top (b := (pgL te le z)) (by first | (rw [pgL_in (by omega)]) | (rw [pgL_out (by omega)])) ?_
    exact hret _ _ dX2_letterAt_23
  · skip
    refine lv_iload_n hx hb dX2_letterAt_4 rfl (lv_at hl 1 rfl) ?_
    refine lv_aload_n hx hb dX2_letterAt_5 rfl (lv_at hl 0 rfl) ?_
    refine va_get (D := D) (ci := 2) (v := .int (iI le)) (C := RX2) (T := TX2) (N := 2) hx hb hts iX2 hown hK.1 hP 0 rfl rfl 1 (by decide) (hts (.fieldLink RX2 15 "CloseClocks$Page" "length" "I") (by decide +kernel)) (fun _ h9 => h9) rfl dX2_letterAt_6 ?_
    refine kx_icmp_ge (tgt := 21) hx hb (by omega) (by omega) dX2_letterAt_9 (by decide) (fun h9 => ?_) (fun h9 => ?_)
    · skip
      refine kx_ldc (z := -100000001) hx hb hown (hts (.constant RX2 19 (-100000001)) (by decide +kernel)) dX2_letterAt_21 (by decide) ?_
      refine kx_top (b := (pgL te le z)) (by first | (rw [pgL_in (by omega)]) | (rw [pgL_out (by omega)])) ?_
      exact hret _ _ dX2_letterAt_23
    · skip
      refine lv_aload_n hx hb dX2_letterAt_12 rfl (lv_at hl 0 rfl) ?_
      refine va_get (D := D) (ci := 2) (v := .ref p1) (C := RX2) (T := TX2) (N := 2) hx hb hts iX2 hown hK.1 hP 0 rfl rfl 0 (by decide) (hts (.fieldLink RX2 9 "CloseClocks$Page" "letters" "[I") (by decide +kernel)) (fun _ h9 => h9) rfl dX2_letterAt_13 ?_
      refine lv_iload_n hx hb dX2_letterAt_16 rfl (lv_at hl 1 rfl) ?_
      refine kx_iald (k := z.toNat) hx hb hK hP 1 rfl (by omega) (by omega) (by decide) dX2_letterAt_17 ?_
      refine lv_goto (tgt := 23) hx hb dX2_letterAt_18 (by decide) ?_
      refine kx_top (b := (pgL te le z)) (by first | (rw [pgL_in (by omega)]) | (rw [pgL_out (by omega)])) ?_
      exact hret _ _ dX2_letterAt_23
def rm_X2_digitAt : Room := ({ frames := 1, cells := 0, slots := 0, locals := 21 } : Room)
set_option maxHeartbeats 4000000 in
set_option maxRecDepth 100000 in
theorem c_X2_digitAt (l : Launch) (D : va_G) (cI cZ : ClassId) (p p1 : Nat) (le : Int) (te : Nat → Int) (z : Int) (hle : 0 ≤ le ∧ le ≤ 61) (hz : -2147483648 ≤ z ∧ z < 2147483648) : kRO l yX2_digitAt wsX2_digitAt rm_X2_digitAt D cI cZ [.ref p, .int (iI z)] (pgW cI cZ p p1 le te) (some (.int (iI ((pgL te le z) - 48)))) := by
  refine kx_ROi (cc := cX2_digitAt) (maxL := 2) (by decide) rfl (Nat.le_of_ble_eq_true rfl) ?_
  intro pr en s mi args below meth co Q hx hb hml hown hts hK hP hret ls hl
  have hown : s.vm.findClass RX2 = some mi.cls := hown
  have hl : lv_has ls 2 [(0, .ref p), (1, .int (iI z))] := hl
  refine lv_aload_n hx hb dX2_digitAt_0 rfl (lv_at hl 0 rfl) ?_
  refine lv_iload_n hx hb dX2_digitAt_1 rfl (lv_at hl 1 rfl) ?_
  refine kx_cV (As := [.int (iI z)]) (rest := []) (st1 := [.int (iI (pgL te le z))]) (q0 := 0) (ci := 2) ⟨hx, hb, hml, hown, hts⟩ (c_X2_letterAt l D cI cZ p p1 le te z (by first | assumption | omega) (by first | assumption | omega)) (cwV 1 hts gX2_digitAt_X2_letterAt rfl rfl rfl (by decide +kernel) ⟨Nat.le_of_ble_eq_true rfl, Nat.le_of_ble_eq_true rfl⟩) hK hP rfl rfl rfl hl.1 rfl (Nat.le_of_ble_eq_true rfl) dX2_digitAt_2 ⟨Nat.zero_le _, Nat.zero_le _⟩ rfl ?_
  refine kx_bipush (z := 48) hx hb dX2_digitAt_5 (by decide) ?_
  refine kx_isub hx hb dX2_digitAt_7 ?_
  exact hret _ _ dX2_digitAt_8
def rm_X2_placeOfLink : Room := ({ frames := 0, cells := 0, slots := 0, locals := 0 } : Room)
set_option maxHeartbeats 4000000 in
set_option maxRecDepth 100000 in
theorem c_X2_placeOfLink (l : Launch) (D : va_G) (cI cZ : ClassId)  (z : Int)  : kRO l yX2_placeOfLink wsX2_placeOfLink rm_X2_placeOfLink D cI cZ [.int (iI z)] ([]) (some (.int (iI (2 + (4 * z))))) := by
  refine kx_ROi (cc := cX2_placeOfLink) (maxL := 1) (by decide) rfl (Nat.le_of_ble_eq_true rfl) ?_
  intro pr en s mi args below meth co Q hx hb hml hown hts hK hP hret ls hl
  have hown : s.vm.findClass RX2 = some mi.cls := hown
  have hl : lv_has ls 1 [(0, .int (iI z))] := hl
  refine kx_const (z := 2) hx hb dX2_placeOfLink_0 rfl ?_
  refine kx_const (z := 4) hx hb dX2_placeOfLink_1 rfl ?_
  refine lv_iload_n hx hb dX2_placeOfLink_2 rfl (lv_at hl 0 rfl) ?_
  refine kx_imul hx hb dX2_placeOfLink_3 ?_
  refine kx_iadd hx hb dX2_placeOfLink_4 ?_
  exact hret _ _ dX2_placeOfLink_5
def rm_X2_howManyLinks : Room := ({ frames := 0, cells := 0, slots := 0, locals := 0 } : Room)
set_option maxHeartbeats 4000000 in
set_option maxRecDepth 100000 in
theorem c_X2_howManyLinks (l : Launch) (D : va_G) (cI cZ : ClassId) (p p1 : Nat) (le : Int) (te : Nat → Int)  (hle : 1 ≤ le ∧ le ≤ 61) : kRO l yX2_howManyLinks wsX2_howManyLinks rm_X2_howManyLinks D cI cZ [.ref p] (pgW cI cZ p p1 le te) (some (.int (iI ((le - 1) / 4)))) := by
  refine kx_ROi (cc := cX2_howManyLinks) (maxL := 1) (by decide) rfl (Nat.le_of_ble_eq_true rfl) ?_
  intro pr en s mi args below meth co Q hx hb hml hown hts hK hP hret ls hl
  have hown : s.vm.findClass RX2 = some mi.cls := hown
  have iX2 : ∀ w ∈ wsX20, w ∈ wsX2_howManyLinks := by decide +kernel
  have hl : lv_has ls 1 [(0, .ref p)] := hl
  refine lv_aload_n hx hb dX2_howManyLinks_0 rfl (lv_at hl 0 rfl) ?_
  refine va_get (D := D) (ci := 2) (v := .int (iI le)) (C := RX2) (T := TX2) (N := 2) hx hb hts iX2 hown hK.1 hP 0 rfl rfl 1 (by decide) (hts (.fieldLink RX2 15 "CloseClocks$Page" "length" "I") (by decide +kernel)) (fun _ h9 => h9) rfl dX2_howManyLinks_1 ?_
  refine kx_const (z := 1) hx hb dX2_howManyLinks_4 rfl ?_
  refine kx_isub hx hb dX2_howManyLinks_5 ?_
  refine kx_const (z := 4) hx hb dX2_howManyLinks_6 rfl ?_
  refine kx_idiv hx hb (by omega) (by omega) dX2_howManyLinks_7 ?_
  exact hret _ _ dX2_howManyLinks_8
def rm_X2_isNode : Room := ({ frames := 2, cells := 0, slots := 0, locals := 42 } : Room)
set_option maxHeartbeats 4000000 in
set_option maxRecDepth 100000 in
theorem c_X2_isNode (l : Launch) (D : va_G) (cI cZ : ClassId) (p p1 : Nat) (le : Int) (te : Nat → Int) (z : Int) (hle : 0 ≤ le ∧ le ≤ 61) (hte : ∀ k : Nat, k < 61 → 0 ≤ te k ∧ te k ≤ 126) (hz : -2147483648 ≤ z ∧ z < 2147483648) : kRO l yX2_isNode wsX2_isNode rm_X2_isNode D cI cZ [.ref p, .int (iI z)] (pgW cI cZ p p1 le te) (some (.int (iI (if 0 ≤ z ∧ z < (pgL te le 0) - 48 then 1 else 0)))) := by
  refine kx_ROz (cc := cX2_isNode) (maxL := 2) (by decide) rfl (Nat.le_of_ble_eq_true rfl) ?_
  intro pr en s mi args below meth co Q hx hb hml hown hts hK hP hret ls hl
  have hown : s.vm.findClass RX2 = some mi.cls := hown
  have hl : lv_has ls 2 [(0, .ref p), (1, .int (iI z))] := hl
  have hpr := pgL_rng hte hle 0
  refine lv_iload_n hx hb dX2_isNode_0 rfl (lv_at hl 1 rfl) ?_
  refine kx_if_lt (tgt := 17) hx hb (by omega) dX2_isNode_1 (by decide) (fun h1 => ?_) (fun h1 => ?_)
  · skip
    refine kx_const (z := 0) hx hb dX2_isNode_17 rfl ?_
    exact hret 0 _ _ (Or.inr ⟨rfl, by first | omega | simp_all⟩) dX2_isNode_18
  · skip
    refine lv_iload_n hx hb dX2_isNode_4 rfl (lv_at hl 1 rfl) ?_
    refine lv_aload_n hx hb dX2_isNode_5 rfl (lv_at hl 0 rfl) ?_
    refine kx_const (z := 0) hx hb dX2_isNode_6 rfl ?_
    refine kx_cV (As := [.int (iI 0)]) (rest := [.int (iI z)]) (st1 := [.int (iI ((pgL te le 0) - 48)), .int (iI z)]) (q0 := 0) (ci := 2) ⟨hx, hb, hml, hown, hts⟩ (c_X2_digitAt l D cI cZ p p1 le te 0 (by first | assumption | omega) (by first | assumption | omega)) (cwV 1 hts gX2_isNode_X2_digitAt rfl rfl rfl (by decide +kernel) ⟨Nat.le_of_ble_eq_true rfl, Nat.le_of_ble_eq_true rfl⟩) hK hP rfl rfl rfl hl.1 rfl (Nat.le_of_ble_eq_true rfl) dX2_isNode_7 ⟨Nat.zero_le _, Nat.zero_le _⟩ rfl ?_
    refine kx_icmp_ge (tgt := 17) hx hb (by omega) (by omega) dX2_isNode_10 (by decide) (fun h10 => ?_) (fun h10 => ?_)
    · skip
      refine kx_const (z := 0) hx hb dX2_isNode_17 rfl ?_
      exact hret 0 _ _ (Or.inr ⟨rfl, by first | omega | simp_all⟩) dX2_isNode_18
    · skip
      refine kx_const (z := 1) hx hb dX2_isNode_13 rfl ?_
      refine lv_goto (tgt := 18) hx hb dX2_isNode_14 (by decide) ?_
      exact hret 1 _ _ (Or.inl ⟨rfl, by first | omega | simp_all | (refine ⟨?_, ?_⟩ <;> omega)⟩) dX2_isNode_18
def rm_X1_isRead : Room := ({ frames := 0, cells := 0, slots := 0, locals := 0 } : Room)
set_option maxHeartbeats 4000000 in
set_option maxRecDepth 100000 in
theorem c_X1_isRead (l : Launch) (D : va_G) (cI cZ : ClassId) (n n1 n2 n3 : Nat) (no li : Int) (dg nb wy : Nat → Int)  (hno : 0 ≤ no ∧ no ≤ 6) : kRO l yX1_isRead wsX1_isRead rm_X1_isRead D cI cZ [.ref n] (ntW cI cZ n n1 n2 n3 no li dg nb wy) (some (.int (iI (if 0 < no then 1 else 0)))) := by
  refine kx_ROz (cc := cX1_isRead) (maxL := 1) (by decide) rfl (Nat.le_of_ble_eq_true rfl) ?_
  intro pr en s mi args below meth co Q hx hb hml hown hts hK hP hret ls hl
  have hown : s.vm.findClass RX1 = some mi.cls := hown
  have iX1 : ∀ w ∈ wsX10, w ∈ wsX1_isRead := by decide +kernel
  have hl : lv_has ls 1 [(0, .ref n)] := hl
  refine lv_aload_n hx hb dX1_isRead_0 rfl (lv_at hl 0 rfl) ?_
  refine va_get (D := D) (ci := 1) (v := .int (iI no)) (C := RX1) (T := TX1) (N := 5) hx hb hts iX1 hown hK.1 hP 0 rfl rfl 3 (by decide) (hts (.fieldLink RX1 21 "CloseClocks$Net" "nodes" "I") (by decide +kernel)) (fun _ h9 => h9) rfl dX1_isRead_1 ?_
  refine kx_if_le (tgt := 11) hx hb (by omega) dX1_isRead_4 (by decide) (fun h4 => ?_) (fun h4 => ?_)
  · skip
    refine kx_const (z := 0) hx hb dX1_isRead_11 rfl ?_
    exact hret 0 _ _ (Or.inr ⟨rfl, by first | omega | simp_all⟩) dX1_isRead_12
  · skip
    refine kx_const (z := 1) hx hb dX1_isRead_7 rfl ?_
    refine lv_goto (tgt := 12) hx hb dX1_isRead_8 (by decide) ?_
    exact hret 1 _ _ (Or.inl ⟨rfl, by first | omega | simp_all | (refine ⟨?_, ?_⟩ <;> omega)⟩) dX1_isRead_12
def rm_X1_hasNode : Room := ({ frames := 0, cells := 0, slots := 0, locals := 0 } : Room)
set_option maxHeartbeats 4000000 in
set_option maxRecDepth 100000 in
theorem c_X1_hasNode (l : Launch) (D : va_G) (cI cZ : ClassId) (n n1 n2 n3 : Nat) (no li : Int) (dg nb wy : Nat → Int) (z : Int) (hno : 0 ≤ no ∧ no ≤ 6) (hz : -2147483648 ≤ z ∧ z < 2147483648) : kRO l yX1_hasNode wsX1_hasNode rm_X1_hasNode D cI cZ [.ref n, .int (iI z)] (ntW cI cZ n n1 n2 n3 no li dg nb wy) (some (.int (iI (if 0 ≤ z ∧ z < no then 1 else 0)))) := by
  refine kx_ROz (cc := cX1_hasNode) (maxL := 2) (by decide) rfl (Nat.le_of_ble_eq_true rfl) ?_
  intro pr en s mi args below meth co Q hx hb hml hown hts hK hP hret ls hl
  have hown : s.vm.findClass RX1 = some mi.cls := hown
  have iX1 : ∀ w ∈ wsX10, w ∈ wsX1_hasNode := by decide +kernel
  have hl : lv_has ls 2 [(0, .ref n), (1, .int (iI z))] := hl
  refine lv_iload_n hx hb dX1_hasNode_0 rfl (lv_at hl 1 rfl) ?_
  refine kx_if_lt (tgt := 16) hx hb (by omega) dX1_hasNode_1 (by decide) (fun h1 => ?_) (fun h1 => ?_)
  · skip
    refine kx_const (z := 0) hx hb dX1_hasNode_16 rfl ?_
    exact hret 0 _ _ (Or.inr ⟨rfl, by first | omega | simp_all⟩) dX1_hasNode_17
  · skip
    refine lv_iload_n hx hb dX1_hasNode_4 rfl (lv_at hl 1 rfl) ?_
    refine lv_aload_n hx hb dX1_hasNode_5 rfl (lv_at hl 0 rfl) ?_
    refine va_get (D := D) (ci := 1) (v := .int (iI no)) (C := RX1) (T := TX1) (N := 5) hx hb hts iX1 hown hK.1 hP 0 rfl rfl 3 (by decide) (hts (.fieldLink RX1 21 "CloseClocks$Net" "nodes" "I") (by decide +kernel)) (fun _ h9 => h9) rfl dX1_hasNode_6 ?_
    refine kx_icmp_ge (tgt := 16) hx hb (by omega) (by omega) dX1_hasNode_9 (by decide) (fun h9 => ?_) (fun h9 => ?_)
    · skip
      refine kx_const (z := 0) hx hb dX1_hasNode_16 rfl ?_
      exact hret 0 _ _ (Or.inr ⟨rfl, by first | omega | simp_all⟩) dX1_hasNode_17
    · skip
      refine kx_const (z := 1) hx hb dX1_hasNode_12 rfl ?_
      refine lv_goto (tgt := 17) hx hb dX1_hasNode_13 (by decide) ?_
      exact hret 1 _ _ (Or.inl ⟨rfl, by first | omega | simp_all | (refine ⟨?_, ?_⟩ <;> omega)⟩) dX1_hasNode_17
def rm_X1_hasLink : Room := ({ frames := 1, cells := 0, slots := 0, locals := 21 } : Room)
set_option maxHeartbeats 4000000 in
set_option maxRecDepth 100000 in
theorem c_X1_hasLink (l : Launch) (D : va_G) (cI cZ : ClassId) (n n1 n2 n3 : Nat) (no li : Int) (dg nb wy : Nat → Int) (z w : Int) (hno : 0 ≤ no ∧ no ≤ 6) (hwy : ∀ k : Nat, k < 36 → 0 ≤ wy k ∧ wy k ≤ 1000) (hz : -2147483648 ≤ z ∧ z < 2147483648) (hw : -2147483648 ≤ w ∧ w < 2147483648) : kRO l yX1_hasLink wsX1_hasLink rm_X1_hasLink D cI cZ [.ref n, .int (iI z), .int (iI w)] (ntW cI cZ n n1 n2 n3 no li dg nb wy) (some (.int (iI (if (0 ≤ z ∧ z < no) ∧ (0 ≤ w ∧ w < no) ∧ wy ((z * 6 + w).toNat) = 1 then 1 else 0)))) := by
  refine kx_ROz (cc := cX1_hasLink) (maxL := 3) (by decide) rfl (Nat.le_of_ble_eq_true rfl) ?_
  intro pr en s mi args below meth co Q hx hb hml hown hts hK hP hret ls hl
  have hown : s.vm.findClass RX1 = some mi.cls := hown
  have iX1 : ∀ w ∈ wsX10, w ∈ wsX1_hasLink := by decide +kernel
  have hl : lv_has ls 3 [(0, .ref n), (1, .int (iI z)), (2, .int (iI w))] := hl
  refine lv_aload_n hx hb dX1_hasLink_0 rfl (lv_at hl 0 rfl) ?_
  refine lv_iload_n hx hb dX1_hasLink_1 rfl (lv_at hl 1 rfl) ?_
  refine kx_cV (As := [.int (iI z)]) (rest := []) (st1 := [.int (iI (if (0 ≤ z ∧ z < no) then 1 else 0))]) (q0 := 0) (ci := 1) ⟨hx, hb, hml, hown, hts⟩ (c_X1_hasNode l D cI cZ n n1 n2 n3 no li dg nb wy z (by first | assumption | omega) (by first | assumption | omega)) (cwV 1 hts gX1_hasLink_X1_hasNode rfl rfl rfl (by decide +kernel) ⟨Nat.le_of_ble_eq_true rfl, Nat.le_of_ble_eq_true rfl⟩) hK hP rfl rfl rfl hl.1 rfl (Nat.le_of_ble_eq_true rfl) dX1_hasLink_2 ⟨Nat.zero_le _, Nat.zero_le _⟩ rfl ?_
  refine kx_if_eqB (tgt := 34) hx hb dX1_hasLink_5 (by decide) (fun h5 => ?_) (fun h5 => ?_)
  · skip
    refine kx_const (z := 0) hx hb dX1_hasLink_34 rfl ?_
    exact hret 0 _ _ (Or.inr ⟨rfl, by first | omega | simp_all⟩) dX1_hasLink_35
  · skip
    refine lv_aload_n hx hb dX1_hasLink_8 rfl (lv_at hl 0 rfl) ?_
    refine lv_iload_n hx hb dX1_hasLink_9 rfl (lv_at hl 2 rfl) ?_
    refine kx_cV (As := [.int (iI w)]) (rest := []) (st1 := [.int (iI (if (0 ≤ w ∧ w < no) then 1 else 0))]) (q0 := 0) (ci := 1) ⟨hx, hb, hml, hown, hts⟩ (c_X1_hasNode l D cI cZ n n1 n2 n3 no li dg nb wy w (by first | assumption | omega) (by first | assumption | omega)) (cwV 1 hts gX1_hasLink_X1_hasNode rfl rfl rfl (by decide +kernel) ⟨Nat.le_of_ble_eq_true rfl, Nat.le_of_ble_eq_true rfl⟩) hK hP rfl rfl rfl hl.1 rfl (Nat.le_of_ble_eq_true rfl) dX1_hasLink_10 ⟨Nat.zero_le _, Nat.zero_le _⟩ rfl ?_
    refine kx_if_eqB (tgt := 34) hx hb dX1_hasLink_13 (by decide) (fun h13 => ?_) (fun h13 => ?_)
    · skip
      refine kx_const (z := 0) hx hb dX1_hasLink_34 rfl ?_
      exact hret 0 _ _ (Or.inr ⟨rfl, by first | omega | simp_all⟩) dX1_hasLink_35
    · skip
      refine lv_aload_n hx hb dX1_hasLink_16 rfl (lv_at hl 0 rfl) ?_
      refine va_get (D := D) (ci := 1) (v := .ref n3) (C := RX1) (T := TX1) (N := 5) hx hb hts iX1 hown hK.1 hP 0 rfl rfl 2 (by decide) (hts (.fieldLink RX1 18 "CloseClocks$Net" "ways" "[I") (by decide +kernel)) (fun _ h9 => h9) rfl dX1_hasLink_17 ?_
      refine lv_iload_n hx hb dX1_hasLink_20 rfl (lv_at hl 1 rfl) ?_
      refine lv_iload_n hx hb dX1_hasLink_21 rfl (lv_at hl 2 rfl) ?_
      refine kx_cSN (As := [.int (iI z), .int (iI w)]) (rest := [.ref n3]) (st1 := [.int (iI ((z * 6) + w)), .ref n3]) ⟨hx, hb, hml, hown, hts⟩ (c_X3_cell l D cI cZ z w ) ⟨va_cnB 2 hts gX1_hasLink_X3_cell_n32 rfl rfl rfl (hK.2.2 (RX1, 32, yX3_cell) (List.mem_of_getElem? (i := 2) rfl)) (hts (.initialized RX3) (by decide +kernel)) (by decide +kernel) ⟨Nat.le_of_ble_eq_true rfl, Nat.le_of_ble_eq_true rfl⟩, hts (.static yX3_cell) (by decide +kernel), trivial⟩ hK (hP.sub (ws' := []) [] rfl) rfl hl.1 rfl (Nat.le_of_ble_eq_true rfl) dX1_hasLink_22 ⟨Nat.zero_le _, Nat.zero_le _⟩ rfl ?_
      refine kx_iald (k := ((z * 6 + w).toNat)) hx hb hK hP 3 rfl (by omega) (by omega) (by decide) dX1_hasLink_25 ?_
      have rg_1 := hwy ((z * 6 + w).toNat) (by omega)
      refine kx_const (z := 1) hx hb dX1_hasLink_26 rfl ?_
      refine kx_icmp_ne (tgt := 34) hx hb (by omega) (by omega) dX1_hasLink_27 (by decide) (fun h27 => ?_) (fun h27 => ?_)
      · skip
        refine kx_const (z := 0) hx hb dX1_hasLink_34 rfl ?_
        exact hret 0 _ _ (Or.inr ⟨rfl, by first | omega | simp_all⟩) dX1_hasLink_35
      · skip
        refine kx_const (z := 1) hx hb dX1_hasLink_30 rfl ?_
        refine lv_goto (tgt := 35) hx hb dX1_hasLink_31 (by decide) ?_
        exact hret 1 _ _ (Or.inl ⟨rfl, by first | omega | simp_all | (refine ⟨?_, ?_⟩ <;> omega)⟩) dX1_hasLink_35
def rm_X1_hopsOf : Room := ({ frames := 1, cells := 0, slots := 0, locals := 21 } : Room)
set_option maxHeartbeats 4000000 in
set_option maxRecDepth 100000 in
theorem c_X1_hopsOf (l : Launch) (D : va_G) (cI cZ : ClassId) (n n1 n2 n3 : Nat) (no li : Int) (dg nb wy : Nat → Int) (i j : Nat) (hwy : ∀ k : Nat, k < 36 → 0 ≤ wy k ∧ wy k ≤ 1000) (hi : i < 6) (hj : j < 6) : kRO l yX1_hopsOf wsX1_hopsOf rm_X1_hopsOf D cI cZ [.ref n, .int (iI (i : Int)), .int (iI (j : Int))] (ntW cI cZ n n1 n2 n3 no li dg nb wy) (some (.int (iI (if wy (i * 6 + j) < 1000 then wy (i * 6 + j) else (-100000001))))) := by
  refine kx_ROi (cc := cX1_hopsOf) (maxL := 4) (by decide) rfl (Nat.le_of_ble_eq_true rfl) ?_
  intro pr en s mi args below meth co Q hx hb hml hown hts hK hP hret ls hl
  have hown : s.vm.findClass RX1 = some mi.cls := hown
  have iX1 : ∀ w ∈ wsX10, w ∈ wsX1_hopsOf := by decide +kernel
  have hl : lv_has ls 4 [(0, .ref n), (1, .int (iI (i : Int))), (2, .int (iI (j : Int)))] := hl
  refine lv_aload_n hx hb dX1_hopsOf_0 rfl (lv_at hl 0 rfl) ?_
  refine va_get (D := D) (ci := 1) (v := .ref n3) (C := RX1) (T := TX1) (N := 5) hx hb hts iX1 hown hK.1 hP 0 rfl rfl 2 (by decide) (hts (.fieldLink RX1 18 "CloseClocks$Net" "ways" "[I") (by decide +kernel)) (fun _ h9 => h9) rfl dX1_hopsOf_1 ?_
  refine lv_iload_n hx hb dX1_hopsOf_4 rfl (lv_at hl 1 rfl) ?_
  refine lv_iload_n hx hb dX1_hopsOf_5 rfl (lv_at hl 2 rfl) ?_
  refine kx_cSN (As := [.int (iI (i : Int)), .int (iI (j : Int))]) (rest := [.ref n3]) (st1 := [.int (iI (((i : Int) * 6) + (j : Int))), .ref n3]) ⟨hx, hb, hml, hown, hts⟩ (c_X3_cell l D cI cZ (i : Int) (j : Int) ) ⟨va_cnB 2 hts gX1_hopsOf_X3_cell_n32 rfl rfl rfl (hK.2.2 (RX1, 32, yX3_cell) (List.mem_of_getElem? (i := 2) rfl)) (hts (.initialized RX3) (by decide +kernel)) (by decide +kernel) ⟨Nat.le_of_ble_eq_true rfl, Nat.le_of_ble_eq_true rfl⟩, hts (.static yX3_cell) (by decide +kernel), trivial⟩ hK (hP.sub (ws' := []) [] rfl) rfl hl.1 rfl (Nat.le_of_ble_eq_true rfl) dX1_hopsOf_6 ⟨Nat.zero_le _, Nat.zero_le _⟩ rfl ?_
  refine kx_iald (k := ((i * 6) + j)) hx hb hK hP 3 rfl (by omega) (by omega) (by decide) dX1_hopsOf_9 ?_
  have rg_1 := hwy ((i * 6) + j) (by omega)
  refine lv_istore_n (lv' := [(3, .int (iI (wy ((i * 6) + j)))), (0, .ref n), (1, .int (iI (i : Int))), (2, .int (iI (j : Int)))]) hx hb dX1_hopsOf_10 rfl hl (by decide) rfl (fun ls hl => ?_)
  refine lv_iload_n hx hb dX1_hopsOf_11 rfl (lv_at hl 0 rfl) ?_
  refine kx_sipush (z := 1000) hx hb dX1_hopsOf_12 (by decide) ?_
  refine kx_icmp_ge (tgt := 22) hx hb (by omega) (by omega) dX1_hopsOf_15 (by decide) (fun h15 => ?_) (fun h15 => ?_)
  · skip
    refine kx_ldc (z := -100000001) hx hb hown (hts (.constant RX1 36 (-100000001)) (by decide +kernel)) dX1_hopsOf_22 (by decide) ?_
    refine kx_top (b := (if wy (i * 6 + j) < 1000 then wy (i * 6 + j) else (-100000001))) (by first | (rw [if_pos (by omega)]) | (rw [if_neg (by omega)])) ?_
    exact hret _ _ dX1_hopsOf_24
  · skip
    refine lv_iload_n hx hb dX1_hopsOf_18 rfl (lv_at hl 0 rfl) ?_
    refine lv_goto (tgt := 24) hx hb dX1_hopsOf_19 (by decide) ?_
    refine kx_top (b := (if wy (i * 6 + j) < 1000 then wy (i * 6 + j) else (-100000001))) (by first | (rw [if_pos (by omega)]) | (rw [if_neg (by omega)])) ?_
    exact hret _ _ dX1_hopsOf_24
def rm_X1_neighbourOf : Room := ({ frames := 1, cells := 0, slots := 0, locals := 21 } : Room)
set_option maxHeartbeats 4000000 in
set_option maxRecDepth 100000 in
theorem c_X1_neighbourOf (l : Launch) (D : va_G) (cI cZ : ClassId) (n n1 n2 n3 : Nat) (no li : Int) (dg nb wy : Nat → Int) (i j : Nat) (hi : i < 6) (hj : j < 6) : kRO l yX1_neighbourOf wsX1_neighbourOf rm_X1_neighbourOf D cI cZ [.ref n, .int (iI (i : Int)), .int (iI (j : Int))] (ntW cI cZ n n1 n2 n3 no li dg nb wy) (some (.int (iI (nb ((i * 6) + j))))) := by
  refine kx_ROi (cc := cX1_neighbourOf) (maxL := 3) (by decide) rfl (Nat.le_of_ble_eq_true rfl) ?_
  intro pr en s mi args below meth co Q hx hb hml hown hts hK hP hret ls hl
  have hown : s.vm.findClass RX1 = some mi.cls := hown
  have iX1 : ∀ w ∈ wsX10, w ∈ wsX1_neighbourOf := by decide +kernel
  have hl : lv_has ls 3 [(0, .ref n), (1, .int (iI (i : Int))), (2, .int (iI (j : Int)))] := hl
  refine lv_aload_n hx hb dX1_neighbourOf_0 rfl (lv_at hl 0 rfl) ?_
  refine va_get (D := D) (ci := 1) (v := .ref n2) (C := RX1) (T := TX1) (N := 5) hx hb hts iX1 hown hK.1 hP 0 rfl rfl 1 (by decide) (hts (.fieldLink RX1 15 "CloseClocks$Net" "neighbours" "[I") (by decide +kernel)) (fun _ h9 => h9) rfl dX1_neighbourOf_1 ?_
  refine lv_iload_n hx hb dX1_neighbourOf_4 rfl (lv_at hl 1 rfl) ?_
  refine lv_iload_n hx hb dX1_neighbourOf_5 rfl (lv_at hl 2 rfl) ?_
  refine kx_cSN (As := [.int (iI (i : Int)), .int (iI (j : Int))]) (rest := [.ref n2]) (st1 := [.int (iI (((i : Int) * 6) + (j : Int))), .ref n2]) ⟨hx, hb, hml, hown, hts⟩ (c_X3_cell l D cI cZ (i : Int) (j : Int) ) ⟨va_cnB 2 hts gX1_neighbourOf_X3_cell_n32 rfl rfl rfl (hK.2.2 (RX1, 32, yX3_cell) (List.mem_of_getElem? (i := 2) rfl)) (hts (.initialized RX3) (by decide +kernel)) (by decide +kernel) ⟨Nat.le_of_ble_eq_true rfl, Nat.le_of_ble_eq_true rfl⟩, hts (.static yX3_cell) (by decide +kernel), trivial⟩ hK (hP.sub (ws' := []) [] rfl) rfl hl.1 rfl (Nat.le_of_ble_eq_true rfl) dX1_neighbourOf_6 ⟨Nat.zero_le _, Nat.zero_le _⟩ rfl ?_
  refine kx_iald (k := ((i * 6) + j)) hx hb hK hP 2 rfl (by omega) (by omega) (by decide) dX1_neighbourOf_9 ?_
  exact hret _ _ dX1_neighbourOf_10
