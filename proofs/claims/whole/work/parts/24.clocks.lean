def rm_X0_clockOf : Room := ({ frames := 0, cells := 0, slots := 0, locals := 0 } : Room)
set_option maxHeartbeats 4000000 in
set_option maxRecDepth 100000 in
theorem c_X0_clockOf (l : Launch) (D : va_G) (cI cZ : ClassId) (c c1 c2 c3 c4 c5 c6 n n1 n2 n3 : Nat) (pa ra fa ft dy er : Nat → Int) (ti gr ah be no li : Int) (dg nb wy : Nat → Int) (i : Nat) (hi : i < 24) : kRO l yX0_clockOf wsX0_clockOf rm_X0_clockOf D cI cZ [.ref c, .int (iI (i : Int))] (ckW cI cZ c c1 c2 c3 c4 c5 c6 n n1 n2 n3 pa ra fa ft dy er ti gr ah be no li dg nb wy) (some (.int (iI (pa i)))) := by
  refine kx_ROi (cc := cX0_clockOf) (maxL := 2) (by decide) rfl (Nat.le_of_ble_eq_true rfl) ?_
  intro pr en s mi args below meth co Q hx hb hml hown hts hK hP hret ls hl
  have hown : s.vm.findClass RX0 = some mi.cls := hown
  have iX0 : ∀ w ∈ wsX00, w ∈ wsX0_clockOf := by decide +kernel
  have hl : lv_has ls 2 [(0, .ref c), (1, .int (iI (i : Int)))] := hl
  refine lv_aload_n hx hb dX0_clockOf_0 rfl (lv_at hl 0 rfl) ?_
  refine va_get (D := D) (ci := 0) (v := .ref c1) (C := RX0) (T := TX0) (N := 11) hx hb hts iX0 hown hK.1 hP 0 rfl rfl 1 (by decide) (hts (.fieldLink RX0 9 "CloseClocks$Clocks" "past" "[I") (by decide +kernel)) (fun _ h9 => h9) rfl dX0_clockOf_1 ?_
  refine lv_iload_n hx hb dX0_clockOf_4 rfl (lv_at hl 1 rfl) ?_
  refine kx_iald (k := i) hx hb hK hP 1 rfl (by omega) (by omega) (by decide) dX0_clockOf_5 ?_
  exact hret _ _ dX0_clockOf_6
def rm_X0_guess : Room := ({ frames := 1, cells := 0, slots := 0, locals := 21 } : Room)
set_option maxHeartbeats 4000000 in
set_option maxRecDepth 100000 in
theorem c_X0_guess (l : Launch) (D : va_G) (cI cZ : ClassId) (c c1 c2 c3 c4 c5 c6 n n1 n2 n3 : Nat) (pa ra fa ft dy er : Nat → Int) (ti gr ah be no li : Int) (dg nb wy : Nat → Int) (i j : Nat) (hi : i < 6) (hj : j < 6) (hd : 0 ≤ dy (i * 6 + j) ∧ dy (i * 6 + j) ≤ 3) : kRO l yX0_guess wsX0_guess rm_X0_guess D cI cZ [.ref c, .int (iI (i : Int)), .int (iI (j : Int))] (ckW cI cZ c c1 c2 c3 c4 c5 c6 n n1 n2 n3 pa ra fa ft dy er ti gr ah be no li dg nb wy) (some (.int (iI (xG pa dy er i j)))) := by
  refine kx_ROi (cc := cX0_guess) (maxL := 5) (by decide) rfl (Nat.le_of_ble_eq_true rfl) ?_
  intro pr en s mi args below meth co Q hx hb hml hown hts hK hP hret ls hl
  have hown : s.vm.findClass RX0 = some mi.cls := hown
  have iX0 : ∀ w ∈ wsX00, w ∈ wsX0_guess := by decide +kernel
  have hl : lv_has ls 5 [(0, .ref c), (1, .int (iI (i : Int))), (2, .int (iI (j : Int)))] := hl
  refine lv_iload_n hx hb dX0_guess_0 rfl (lv_at hl 1 rfl) ?_
  refine lv_iload_n hx hb dX0_guess_1 rfl (lv_at hl 2 rfl) ?_
  refine kx_cSN (As := [.int (iI (i : Int)), .int (iI (j : Int))]) (rest := []) (st1 := [.int (iI (((i : Int) * 6) + (j : Int)))]) ⟨hx, hb, hml, hown, hts⟩ (c_X3_cell l D cI cZ (i : Int) (j : Int) ) ⟨va_cnB 2 hts gX0_guess_X3_cell_n89 rfl rfl rfl (hK.2.2 (RX0, 89, yX3_cell) (List.mem_of_getElem? (i := 3) rfl)) (hts (.initialized RX3) (by decide +kernel)) (by decide +kernel) ⟨Nat.le_of_ble_eq_true rfl, Nat.le_of_ble_eq_true rfl⟩, hts (.static yX3_cell) (by decide +kernel), trivial⟩ hK (hP.sub (ws' := []) [] rfl) rfl hl.1 rfl (Nat.le_of_ble_eq_true rfl) dX0_guess_2 ⟨Nat.zero_le _, Nat.zero_le _⟩ rfl ?_
  refine lv_istore_n (lv' := [(3, .int (iI (((i : Int) * 6) + (j : Int)))), (0, .ref c), (1, .int (iI (i : Int))), (2, .int (iI (j : Int)))]) hx hb dX0_guess_5 rfl hl (by decide) rfl (fun ls hl => ?_)
  refine lv_aload_n hx hb dX0_guess_6 rfl (lv_at hl 1 rfl) ?_
  refine va_get (D := D) (ci := 0) (v := .ref c5) (C := RX0) (T := TX0) (N := 11) hx hb hts iX0 hown hK.1 hP 0 rfl rfl 5 (by decide) (hts (.fieldLink RX0 24 "CloseClocks$Clocks" "delays" "[I") (by decide +kernel)) (fun _ h9 => h9) rfl dX0_guess_7 ?_
  refine lv_iload_n hx hb dX0_guess_10 rfl (lv_at hl 0 rfl) ?_
  refine kx_iald (k := ((i * 6) + j)) hx hb hK hP 5 rfl (by omega) (by omega) (by decide) dX0_guess_11 ?_
  refine lv_istore (lv' := [(4, .int (iI (dy ((i * 6) + j)))), (3, .int (iI (((i : Int) * 6) + (j : Int)))), (0, .ref c), (1, .int (iI (i : Int))), (2, .int (iI (j : Int)))]) hx hb dX0_guess_12 hl (by decide) rfl (fun ls hl => ?_)
  refine lv_aload_n hx hb dX0_guess_14 rfl (lv_at hl 2 rfl) ?_
  refine va_get (D := D) (ci := 0) (v := .ref c1) (C := RX0) (T := TX0) (N := 11) hx hb hts iX0 hown hK.1 hP 0 rfl rfl 1 (by decide) (hts (.fieldLink RX0 9 "CloseClocks$Clocks" "past" "[I") (by decide +kernel)) (fun _ h9 => h9) rfl dX0_guess_15 ?_
  refine lv_iload hx hb dX0_guess_18 (lv_at hl 0 rfl) ?_
  refine lv_iload_n hx hb dX0_guess_20 rfl (lv_at hl 4 rfl) ?_
  refine kx_cSN (As := [.int (iI (dy ((i * 6) + j))), .int (iI (j : Int))]) (rest := [.ref c1]) (st1 := [.int (iI (((dy ((i * 6) + j)) * 6) + (j : Int))), .ref c1]) ⟨hx, hb, hml, hown, hts⟩ (c_X3_cell l D cI cZ (dy ((i * 6) + j)) (j : Int) ) ⟨va_cnB 2 hts gX0_guess_X3_cell_n89 rfl rfl rfl (hK.2.2 (RX0, 89, yX3_cell) (List.mem_of_getElem? (i := 3) rfl)) (hts (.initialized RX3) (by decide +kernel)) (by decide +kernel) ⟨Nat.le_of_ble_eq_true rfl, Nat.le_of_ble_eq_true rfl⟩, hts (.static yX3_cell) (by decide +kernel), trivial⟩ hK (hP.sub (ws' := []) [] rfl) rfl hl.1 rfl (Nat.le_of_ble_eq_true rfl) dX0_guess_21 ⟨Nat.zero_le _, Nat.zero_le _⟩ rfl ?_
  refine kx_iald (k := ((dy (i * 6 + j)).toNat * 6 + j)) hx hb hK hP 1 rfl (by omega) (by omega) (by decide) dX0_guess_24 ?_
  refine kx_bipush (z := 100) hx hb dX0_guess_25 (by decide) ?_
  refine lv_iload hx hb dX0_guess_27 (lv_at hl 0 rfl) ?_
  refine kx_imul hx hb dX0_guess_29 ?_
  refine kx_iadd hx hb dX0_guess_30 ?_
  refine lv_aload_n hx hb dX0_guess_31 rfl (lv_at hl 2 rfl) ?_
  refine va_get (D := D) (ci := 0) (v := .ref c6) (C := RX0) (T := TX0) (N := 11) hx hb hts iX0 hown hK.1 hP 0 rfl rfl 6 (by decide) (hts (.fieldLink RX0 27 "CloseClocks$Clocks" "errors" "[I") (by decide +kernel)) (fun _ h9 => h9) rfl dX0_guess_32 ?_
  refine lv_iload_n hx hb dX0_guess_35 rfl (lv_at hl 1 rfl) ?_
  refine kx_iald (k := ((i * 6) + j)) hx hb hK hP 6 rfl (by omega) (by omega) (by decide) dX0_guess_36 ?_
  refine kx_iadd hx hb dX0_guess_37 ?_
  refine kx_top (b := (xG pa dy er i j)) (by unfold xG; rfl) ?_
  exact hret _ _ dX0_guess_38
def rm_X0_compareGuesses : Room := ({ frames := 2, cells := 0, slots := 0, locals := 45 } : Room)
set_option maxHeartbeats 4000000 in
set_option maxRecDepth 100000 in
theorem c_X0_compareGuesses (l : Launch) (D : va_G) (cI cZ : ClassId) (c c1 c2 c3 c4 c5 c6 n n1 n2 n3 : Nat) (pa ra fa ft dy er : Nat → Int) (ti gr ah be no li : Int) (dg nb wy : Nat → Int) (v : Nat) (hv : v < 6) (hpa : ∀ k : Nat, k < 24 → 0 ≤ pa k ∧ pa k ≤ 50000000) (hdy : ∀ k : Nat, k < 36 → 0 ≤ dy k ∧ dy k ≤ 3) (her : ∀ k : Nat, k < 36 → -9 ≤ er k ∧ er k ≤ 9) (hdg : ∀ v : Nat, v < 6 → 0 ≤ dg v ∧ dg v ≤ 5) (hnb : ∀ v k : Nat, v < 6 → (k : Int) < dg v → 0 ≤ nb (v * 6 + k) ∧ nb (v * 6 + k) < 6) : kWR l yX0_compareGuesses wsX0_compareGuesses rm_X0_compareGuesses D cI cZ [.ref c, .int (iI (v : Int))] (ckW cI cZ c c1 c2 c3 c4 c5 c6 n n1 n2 n3 pa ra fa ft dy er ti gr ah be no li dg nb wy) (fun u : Unit => none) (fun u : Unit => True) (fun u : Unit => ckW cI cZ c c1 c2 c3 c4 c5 c6 n n1 n2 n3 pa ra fa ft dy er ti gr (xAh pa dy er dg nb v) (xBe pa dy er dg nb v) no li dg nb wy) 0 0 := by
  refine kx_WRv (cc := cX0_compareGuesses) (maxL := 8) (by decide) rfl (Nat.le_of_ble_eq_true rfl) ?_
  intro pr en s mi args below meth co Q A hx hb hml hown hts hK hin hA hP hD hS hret ls hl
  have hown : s.vm.findClass RX0 = some mi.cls := hown
  have iX0 : ∀ w ∈ wsX00, w ∈ wsX0_compareGuesses := by decide +kernel
  have iX1 : ∀ w ∈ wsX10, w ∈ wsX0_compareGuesses := by decide +kernel
  have hl : lv_has ls 8 [(0, .ref c), (1, .int (iI (v : Int)))] := hl
  generalize hH0 : s.heap = H0 at hA hP hS hret ⊢
  obtain ⟨H, hH⟩ : ∃ H : Heap, H = H0 := ⟨_, rfl⟩
  obtain ⟨locs, hlocs⟩ : ∃ locs : List Loc, locs = [] := ⟨_, rfl⟩
  have hS : va_S A H0 H locs := by rw [hH, hlocs]; exact hS
  have hP : va_P D vwCl (ckW cI cZ c c1 c2 c3 c4 c5 c6 n n1 n2 n3 pa ra fa ft dy er ti gr ah be no li dg nb wy) H := by rw [hH]; exact hP
  suffices hgo : W pr l en rm_X0_compareGuesses s mi args below meth co H locs 0 0 Q (F0 mi 0 ls []) by rw [hH, hlocs] at hgo; exact hgo
  clear hH hlocs
  have hdv := hdg v hv
  refine kx_ldc (z := -100000001) hx hb hown (hts (.constant RX0 37 (-100000001)) (by decide +kernel)) dX0_compareGuesses_0 (by decide) ?_
  refine lv_istore_n (lv' := [(2, .int (iI (-100000001))), (0, .ref c), (1, .int (iI (v : Int)))]) hx hb dX0_compareGuesses_2 rfl hl (by decide) rfl (fun ls hl => ?_)
  refine kx_ldc (z := -100000001) hx hb hown (hts (.constant RX0 37 (-100000001)) (by decide +kernel)) dX0_compareGuesses_3 (by decide) ?_
  refine lv_istore_n (lv' := [(3, .int (iI (-100000001))), (2, .int (iI (-100000001))), (0, .ref c), (1, .int (iI (v : Int)))]) hx hb dX0_compareGuesses_5 rfl hl (by decide) rfl (fun ls hl => ?_)
  refine lv_aload_n hx hb dX0_compareGuesses_6 rfl (lv_at hl 2 rfl) ?_
  refine lv_iload_n hx hb dX0_compareGuesses_7 rfl (lv_at hl 3 rfl) ?_
  refine kx_cV (As := [.int (iI (v : Int))]) (rest := []) (st1 := [.int (iI (pa v))]) (q0 := 0) (ci := 0) ⟨hx, hb, hml, hown, hts⟩ (c_X0_clockOf l D cI cZ c c1 c2 c3 c4 c5 c6 n n1 n2 n3 pa ra fa ft dy er ti gr ah be no li dg nb wy v (by first | assumption | omega)) (cwV 1 hts gX0_compareGuesses_X0_clockOf rfl rfl rfl (by decide +kernel) ⟨Nat.le_of_ble_eq_true rfl, Nat.le_of_ble_eq_true rfl⟩) hK hP rfl rfl rfl hl.1 rfl (Nat.le_of_ble_eq_true rfl) dX0_compareGuesses_8 ⟨Nat.zero_le _, Nat.zero_le _⟩ rfl ?_
  refine lv_istore (lv' := [(4, .int (iI (pa v))), (3, .int (iI (-100000001))), (2, .int (iI (-100000001))), (0, .ref c), (1, .int (iI (v : Int)))]) hx hb dX0_compareGuesses_11 hl (by decide) rfl (fun ls hl => ?_)
  refine lv_aload_n hx hb dX0_compareGuesses_13 rfl (lv_at hl 3 rfl) ?_
  refine va_get (D := D) (ci := 0) (v := .ref n) (C := RX0) (T := TX0) (N := 11) hx hb hts iX0 hown hK.1 hP 0 rfl rfl 0 (by decide) (hts (.fieldLink RX0 44 "CloseClocks$Clocks" "shape" "LCloseClocks$Net;") (by decide +kernel)) (fun _ h9 => h9) rfl dX0_compareGuesses_14 ?_
  refine va_getN (D := D) (ci := 1) (v := .ref n1) (C := RX1) (T := TX1) (N := 5) hx hb hts iX1 hown hK.1 hP 7 rfl rfl 0 (by decide) (va_Nw.use rfl (hK.2.1 (RX0, 106, RX1, "degrees", "[I") (List.mem_of_getElem? (i := 2) rfl))) (fun _ h9 => h9) rfl dX0_compareGuesses_17 ?_
  refine lv_iload_n hx hb dX0_compareGuesses_20 rfl (lv_at hl 4 rfl) ?_
  refine kx_iald (k := v) hx hb hK hP 8 rfl (by omega) (by omega) (by decide) dX0_compareGuesses_21 ?_
  refine lv_istore (lv' := [(5, .int (iI (dg v))), (4, .int (iI (pa v))), (3, .int (iI (-100000001))), (2, .int (iI (-100000001))), (0, .ref c), (1, .int (iI (v : Int)))]) hx hb dX0_compareGuesses_22 hl (by decide) rfl (fun ls hl => ?_)
  refine kx_const (z := 0) hx hb dX0_compareGuesses_24 rfl ?_
  refine lv_istore (lv' := [(6, .int (iI 0)), (5, .int (iI (dg v))), (4, .int (iI (pa v))), (3, .int (iI (-100000001))), (2, .int (iI (-100000001))), (0, .ref c), (1, .int (iI (v : Int)))]) hx hb dX0_compareGuesses_25 hl (by decide) rfl (fun ls hl => ?_)
  have L27 : ∀ (fu : Nat) (k : Nat) (a1 : Int) (b1 : Int), ((k : Int) ≤ dg v) → (a1 = xA pa dy er nb v k) → (b1 = xB pa dy er nb v k) → (dg v).toNat - k < fu → ∀ (H : Heap) (locs : List Loc), va_P D vwCl (ckW cI cZ c c1 c2 c3 c4 c5 c6 n n1 n2 n3 pa ra fa ft dy er ti gr ah be no li dg nb wy) H → va_D A (ckW cI cZ c c1 c2 c3 c4 c5 c6 n n1 n2 n3 pa ra fa ft dy er ti gr ah be no li dg nb wy) → va_S A H0 H locs → ∀ ls : Array Slot, lv_has ls 8 [(0, .ref c), (1, .int (iI (v : Int))), (2, .int (iI a1)), (3, .int (iI b1)), (4, .int (iI (pa v))), (5, .int (iI (dg v))), (6, .int (iI (k : Int)))] → W pr l en rm_X0_compareGuesses s mi args below meth co H locs 0 0 Q (F0 mi 27 ls []) := by
    intro fu
    induction fu with
    | zero =>
      intro k a1 b1 hk ha1 hb1 hfu
      exact absurd hfu (Nat.not_lt_zero _)
    | succ fu ih27 =>
      intro k a1 b1 hk ha1 hb1 hfu H locs hP hD hS ls hl
      have hrg := xA_rng (nb := nb) hpa hdy her hv k (fun j hj => hnb v j hv (by omega))
      refine lv_iload hx hb dX0_compareGuesses_27 (lv_at hl 6 rfl) ?_
      refine lv_iload hx hb dX0_compareGuesses_29 (lv_at hl 5 rfl) ?_
      refine kx_icmp_ge (tgt := 75) hx hb (by omega) (by omega) dX0_compareGuesses_31 (by decide) (fun h31 => ?_) (fun h31 => ?_)
      · skip
        have hke : (dg v).toNat = k := by omega
        have hea : a1 = xAh pa dy er dg nb v := by rw [xAh, hke]; exact ha1
        have heb : b1 = xBe pa dy er dg nb v := by rw [xBe, hke]; exact hb1
        refine lv_aload_n hx hb dX0_compareGuesses_75 rfl (lv_at hl 0 rfl) ?_
        refine lv_iload_n hx hb dX0_compareGuesses_76 rfl (lv_at hl 2 rfl) ?_
        refine kx_top (b := (xAh pa dy er dg nb v)) (hea) ?_
        refine va_put (D := D) (ci := 0) (v := .int (iI (xAh pa dy er dg nb v))) (ty := .int) (C := RX0) (T := TX0) (N := 11) hx hb hts iX0 tyX0 tyX0_ok nmX0 hown hK.1 hP hD hS 0 rfl rfl 9 (by decide) (hts (.fieldLink RX0 38 "CloseClocks$Clocks" "ahead" "I") (by decide +kernel)) (fun _ h9 => h9) rfl (by decide +kernel) rfl rfl (Nat.le_of_ble_eq_true rfl) dX0_compareGuesses_77 (fun H locs hP hD hS => ?_)
        have hP : va_P D vwCl (ckW cI cZ c c1 c2 c3 c4 c5 c6 n n1 n2 n3 pa ra fa ft dy er ti gr (xAh pa dy er dg nb v) be no li dg nb wy) H := hP
        have hD : va_D A (ckW cI cZ c c1 c2 c3 c4 c5 c6 n n1 n2 n3 pa ra fa ft dy er ti gr (xAh pa dy er dg nb v) be no li dg nb wy) := hD
        refine lv_aload_n hx hb dX0_compareGuesses_80 rfl (lv_at hl 0 rfl) ?_
        refine lv_iload_n hx hb dX0_compareGuesses_81 rfl (lv_at hl 3 rfl) ?_
        refine kx_top (b := (xBe pa dy er dg nb v)) (heb) ?_
        refine va_put (D := D) (ci := 0) (v := .int (iI (xBe pa dy er dg nb v))) (ty := .int) (C := RX0) (T := TX0) (N := 11) hx hb hts iX0 tyX0 tyX0_ok nmX0 hown hK.1 hP hD hS 0 rfl rfl 10 (by decide) (hts (.fieldLink RX0 41 "CloseClocks$Clocks" "behind" "I") (by decide +kernel)) (fun _ h9 => h9) rfl (by decide +kernel) rfl rfl (Nat.le_of_ble_eq_true rfl) dX0_compareGuesses_82 (fun H locs hP hD hS => ?_)
        have hP : va_P D vwCl (ckW cI cZ c c1 c2 c3 c4 c5 c6 n n1 n2 n3 pa ra fa ft dy er ti gr (xAh pa dy er dg nb v) (xBe pa dy er dg nb v) no li dg nb wy) H := hP
        have hD : va_D A (ckW cI cZ c c1 c2 c3 c4 c5 c6 n n1 n2 n3 pa ra fa ft dy er ti gr (xAh pa dy er dg nb v) (xBe pa dy er dg nb v) no li dg nb wy) := hD
        exact hret () H locs _ _ (trivial) hP hD hS dX0_compareGuesses_85
      · skip
        have hnk := hnb v k hv (by omega)
        have hdr := xDf_rng (v := v) (w := (nb (v * 6 + k)).toNat) hpa hdy her hv (by omega)
        refine lv_aload_n hx hb dX0_compareGuesses_34 rfl (lv_at hl 0 rfl) ?_
        refine lv_iload_n hx hb dX0_compareGuesses_35 rfl (lv_at hl 1 rfl) ?_
        refine lv_aload_n hx hb dX0_compareGuesses_36 rfl (lv_at hl 0 rfl) ?_
        refine va_get (D := D) (ci := 0) (v := .ref n) (C := RX0) (T := TX0) (N := 11) hx hb hts iX0 hown hK.1 hP 0 rfl rfl 0 (by decide) (hts (.fieldLink RX0 44 "CloseClocks$Clocks" "shape" "LCloseClocks$Net;") (by decide +kernel)) (fun _ h9 => h9) rfl dX0_compareGuesses_37 ?_
        refine lv_iload_n hx hb dX0_compareGuesses_40 rfl (lv_at hl 1 rfl) ?_
        refine lv_iload hx hb dX0_compareGuesses_41 (lv_at hl 6 rfl) ?_
        refine kx_cV (As := [.int (iI (v : Int)), .int (iI (k : Int))]) (rest := [.int (iI (v : Int)), .ref c]) (st1 := [.int (iI (nb ((v * 6) + k))), .int (iI (v : Int)), .ref c]) (q0 := 0) (ci := 1) ⟨hx, hb, hml, hown, hts⟩ (c_X1_neighbourOf l D cI cZ n n1 n2 n3 no li dg nb wy v k (by first | assumption | omega) (by first | assumption | omega)) (cwV 2 hts gX0_compareGuesses_X1_neighbourOf rfl rfl rfl (by decide +kernel) ⟨Nat.le_of_ble_eq_true rfl, Nat.le_of_ble_eq_true rfl⟩) hK (hP.sub (ws' := ntW cI cZ n n1 n2 n3 no li dg nb wy) [7, 8, 9, 10] rfl) rfl rfl rfl hl.1 rfl (Nat.le_of_ble_eq_true rfl) dX0_compareGuesses_43 ⟨Nat.zero_le _, Nat.zero_le _⟩ rfl ?_
        refine kx_top (b := (((nb (v * 6 + k)).toNat : Nat) : Int)) (by omega) ?_
        refine kx_cV (As := [.int (iI (v : Int)), .int (iI (((nb (v * 6 + k)).toNat : Nat) : Int))]) (rest := []) (st1 := [.int (iI (xG pa dy er v ((nb (v * 6 + k)).toNat)))]) (q0 := 0) (ci := 0) ⟨hx, hb, hml, hown, hts⟩ (c_X0_guess l D cI cZ c c1 c2 c3 c4 c5 c6 n n1 n2 n3 pa ra fa ft dy er ti gr ah be no li dg nb wy v ((nb (v * 6 + k)).toNat) (by first | assumption | omega) (by first | assumption | omega) (hdy _ (by omega))) (cwV 2 hts gX0_compareGuesses_X0_guess rfl rfl rfl (by decide +kernel) ⟨Nat.le_of_ble_eq_true rfl, Nat.le_of_ble_eq_true rfl⟩) hK hP rfl rfl rfl hl.1 rfl (Nat.le_of_ble_eq_true rfl) dX0_compareGuesses_46 ⟨Nat.zero_le _, Nat.zero_le _⟩ rfl ?_
        refine lv_iload hx hb dX0_compareGuesses_49 (lv_at hl 4 rfl) ?_
        refine kx_isub hx hb dX0_compareGuesses_51 ?_
        refine kx_top (b := (xDf pa dy er v (nb (v * 6 + k)).toNat)) (by unfold xDf; rfl) ?_
        refine lv_istore (lv' := [(7, .int (iI (xDf pa dy er v (nb (v * 6 + k)).toNat))), (0, .ref c), (1, .int (iI (v : Int))), (2, .int (iI a1)), (3, .int (iI b1)), (4, .int (iI (pa v))), (5, .int (iI (dg v))), (6, .int (iI (k : Int)))]) hx hb dX0_compareGuesses_52 hl (by decide) rfl (fun ls hl => ?_)
        refine lv_iload_n hx hb dX0_compareGuesses_54 rfl (lv_at hl 3 rfl) ?_
        refine lv_iload hx hb dX0_compareGuesses_55 (lv_at hl 0 rfl) ?_
        refine kx_max hx hb (hml.trans hl.1.symm) hown (hts (.methodLink RX0 115 Lib.Math.max.name) (by decide +kernel)) (hts (.static Lib.Math.max.name) (by decide +kernel)) (hts (.initialized "java/lang/Math") (by decide +kernel)) (hts (.code Lib.Math.max.name Lib.Math.max.code 2 (some .int)) (by decide +kernel)) (by decide) (Nat.le_of_ble_eq_true rfl) (by decide) (by decide) (by omega) (by omega) dX0_compareGuesses_57 ?_
        refine lv_istore_n (lv' := [(2, .int (iI (max a1 (xDf pa dy er v (nb (v * 6 + k)).toNat)))), (7, .int (iI (xDf pa dy er v (nb (v * 6 + k)).toNat))), (0, .ref c), (1, .int (iI (v : Int))), (3, .int (iI b1)), (4, .int (iI (pa v))), (5, .int (iI (dg v))), (6, .int (iI (k : Int)))]) hx hb dX0_compareGuesses_60 rfl hl (by decide) rfl (fun ls hl => ?_)
        refine lv_iload_n hx hb dX0_compareGuesses_61 rfl (lv_at hl 4 rfl) ?_
        refine lv_iload hx hb dX0_compareGuesses_62 (lv_at hl 1 rfl) ?_
        refine kx_ineg hx hb dX0_compareGuesses_64 ?_
        refine kx_max hx hb (hml.trans hl.1.symm) hown (hts (.methodLink RX0 115 Lib.Math.max.name) (by decide +kernel)) (hts (.static Lib.Math.max.name) (by decide +kernel)) (hts (.initialized "java/lang/Math") (by decide +kernel)) (hts (.code Lib.Math.max.name Lib.Math.max.code 2 (some .int)) (by decide +kernel)) (by decide) (Nat.le_of_ble_eq_true rfl) (by decide) (by decide) (by omega) (by omega) dX0_compareGuesses_65 ?_
        refine lv_istore_n (lv' := [(3, .int (iI (max b1 (-(xDf pa dy er v (nb (v * 6 + k)).toNat))))), (2, .int (iI (max a1 (xDf pa dy er v (nb (v * 6 + k)).toNat)))), (7, .int (iI (xDf pa dy er v (nb (v * 6 + k)).toNat))), (0, .ref c), (1, .int (iI (v : Int))), (4, .int (iI (pa v))), (5, .int (iI (dg v))), (6, .int (iI (k : Int)))]) hx hb dX0_compareGuesses_68 rfl hl (by decide) rfl (fun ls hl => ?_)
        refine kx_iinc (z := ((k + 1 : Nat) : Int)) (lv' := [(6, .int (iI ((k + 1 : Nat) : Int))), (3, .int (iI (max b1 (-(xDf pa dy er v (nb (v * 6 + k)).toNat))))), (2, .int (iI (max a1 (xDf pa dy er v (nb (v * 6 + k)).toNat)))), (7, .int (iI (xDf pa dy er v (nb (v * 6 + k)).toNat))), (0, .ref c), (1, .int (iI (v : Int))), (4, .int (iI (pa v))), (5, .int (iI (dg v)))]) hx hb dX0_compareGuesses_69 hl (k0 := 7) rfl (by omega) (by decide) rfl (fun ls hl => ?_)
        refine lv_goto (tgt := 27) hx hb dX0_compareGuesses_72 (by decide) ?_
        exact ih27 (k + 1) (max a1 (xDf pa dy er v (nb (v * 6 + k)).toNat)) (max b1 (-(xDf pa dy er v (nb (v * 6 + k)).toNat))) (by first | assumption | omega) (by rw [xA, ha1]) (by rw [xB, hb1]) (by omega) H locs hP hD hS ls (lv_sub hl [4, 5, 2, 1, 6, 7, 0] rfl)
  exact L27 ((dg v).toNat - 0 + 1) 0 (-100000001) (-100000001) (by first | assumption | omega) (rfl) (rfl) (Nat.lt_succ_self _) H locs hP hD hS ls (lv_sub hl [5, 6, 4, 3, 2, 1, 0] rfl)
def rm_X0_upLevel : Room := ({ frames := 2, cells := 0, slots := 0, locals := 42 } : Room)
set_option maxHeartbeats 4000000 in
set_option maxRecDepth 100000 in
theorem c_X0_upLevel (l : Launch) (D : va_G) (cI cZ : ClassId) (c c1 c2 c3 c4 c5 c6 n n1 n2 n3 : Nat) (pa ra fa ft dy er : Nat → Int) (ti gr ah be no li : Int) (dg nb wy : Nat → Int) (sp : Int) (hsp : 1 ≤ sp ∧ sp ≤ 500) (hab : (-100000001 ≤ ah ∧ ah ≤ 60000000) ∧ (-100000001 ≤ be ∧ be ≤ 60000000)) : kRO l yX0_upLevel wsX0_upLevel rm_X0_upLevel D cI cZ [.ref c, .int (iI sp)] (ckW cI cZ c c1 c2 c3 c4 c5 c6 n n1 n2 n3 pa ra fa ft dy er ti gr ah be no li dg nb wy) (some (.int (iI (xUp ah be sp)))) := by
  refine kx_ROi (cc := cX0_upLevel) (maxL := 3) (by decide) rfl (Nat.le_of_ble_eq_true rfl) ?_
  intro pr en s mi args below meth co Q hx hb hml hown hts hK hP hret ls hl
  have hown : s.vm.findClass RX0 = some mi.cls := hown
  have iX0 : ∀ w ∈ wsX00, w ∈ wsX0_upLevel := by decide +kernel
  have hl : lv_has ls 3 [(0, .ref c), (1, .int (iI sp))] := hl
  have hlv := lvR_le (be := be) hsp (by omega)
  refine lv_aload_n hx hb dX0_upLevel_0 rfl (lv_at hl 0 rfl) ?_
  refine va_get (D := D) (ci := 0) (v := .int (iI be)) (C := RX0) (T := TX0) (N := 11) hx hb hts iX0 hown hK.1 hP 0 rfl rfl 10 (by decide) (hts (.fieldLink RX0 41 "CloseClocks$Clocks" "behind" "I") (by decide +kernel)) (fun _ h9 => h9) rfl dX0_upLevel_1 ?_
  refine lv_iload_n hx hb dX0_upLevel_4 rfl (lv_at hl 1 rfl) ?_
  refine kx_cSN (As := [.int (iI be), .int (iI sp)]) (rest := []) (st1 := [.int (iI (lvR be sp))]) ⟨hx, hb, hml, hown, hts⟩ (c_X3_levelReaching l D cI cZ be sp (by first | assumption | omega) (by first | assumption | omega)) ⟨va_cnB 2 hts gX0_upLevel_X3_levelReaching_n120 rfl rfl rfl (hK.2.2 (RX0, 120, yX3_levelReaching) (List.mem_of_getElem? (i := 4) rfl)) (hts (.initialized RX3) (by decide +kernel)) (by decide +kernel) ⟨Nat.le_of_ble_eq_true rfl, Nat.le_of_ble_eq_true rfl⟩, hts (.static yX3_levelReaching) (by decide +kernel), trivial⟩ hK (hP.sub (ws' := []) [] rfl) rfl hl.1 rfl (Nat.le_of_ble_eq_true rfl) dX0_upLevel_5 ⟨Nat.zero_le _, Nat.zero_le _⟩ rfl ?_
  refine lv_istore_n (lv' := [(2, .int (iI (lvR be sp))), (0, .ref c), (1, .int (iI sp))]) hx hb dX0_upLevel_8 rfl hl (by decide) rfl (fun ls hl => ?_)
  refine lv_aload_n hx hb dX0_upLevel_9 rfl (lv_at hl 1 rfl) ?_
  refine va_get (D := D) (ci := 0) (v := .int (iI ah)) (C := RX0) (T := TX0) (N := 11) hx hb hts iX0 hown hK.1 hP 0 rfl rfl 9 (by decide) (hts (.fieldLink RX0 38 "CloseClocks$Clocks" "ahead" "I") (by decide +kernel)) (fun _ h9 => h9) rfl dX0_upLevel_10 ?_
  refine kx_const (z := 2) hx hb dX0_upLevel_13 rfl ?_
  refine lv_iload_n hx hb dX0_upLevel_14 rfl (lv_at hl 0 rfl) ?_
  refine kx_imul hx hb dX0_upLevel_15 ?_
  refine kx_const (z := 1) hx hb dX0_upLevel_16 rfl ?_
  refine kx_iadd hx hb dX0_upLevel_17 ?_
  refine lv_iload_n hx hb dX0_upLevel_18 rfl (lv_at hl 2 rfl) ?_
  refine kx_imul hx hb dX0_upLevel_19 ?_
  refine kx_icmp_lt (tgt := 27) hx hb (by omega) (by omega) dX0_upLevel_20 (by decide) (fun h20 => ?_) (fun h20 => ?_)
  · skip
    refine kx_ldc (z := -100000001) hx hb hown (hts (.constant RX0 37 (-100000001)) (by decide +kernel)) dX0_upLevel_27 (by decide) ?_
    refine kx_top (b := (xUp ah be sp)) (by first | (rw [xUp, if_pos (by omega)]) | (rw [xUp, if_neg (by omega)])) ?_
    exact hret _ _ dX0_upLevel_29
  · skip
    refine lv_iload_n hx hb dX0_upLevel_23 rfl (lv_at hl 0 rfl) ?_
    refine lv_goto (tgt := 29) hx hb dX0_upLevel_24 (by decide) ?_
    refine kx_top (b := (xUp ah be sp)) (by first | (rw [xUp, if_pos (by omega)]) | (rw [xUp, if_neg (by omega)])) ?_
    exact hret _ _ dX0_upLevel_29
def rm_X0_downLevel : Room := ({ frames := 1, cells := 0, slots := 0, locals := 21 } : Room)
set_option maxHeartbeats 4000000 in
set_option maxRecDepth 100000 in
theorem c_X0_downLevel (l : Launch) (D : va_G) (cI cZ : ClassId) (c c1 c2 c3 c4 c5 c6 n n1 n2 n3 : Nat) (pa ra fa ft dy er : Nat → Int) (ti gr ah be no li : Int) (dg nb wy : Nat → Int) (sp : Int) (hsp : 1 ≤ sp ∧ sp ≤ 500) (hab : (-100000001 ≤ ah ∧ ah ≤ 60000000) ∧ (-100000001 ≤ be ∧ be ≤ 60000000)) : kRO l yX0_downLevel wsX0_downLevel rm_X0_downLevel D cI cZ [.ref c, .int (iI sp)] (ckW cI cZ c c1 c2 c3 c4 c5 c6 n n1 n2 n3 pa ra fa ft dy er ti gr ah be no li dg nb wy) (some (.int (iI (xDn ah be sp)))) := by
  refine kx_ROi (cc := cX0_downLevel) (maxL := 3) (by decide) rfl (Nat.le_of_ble_eq_true rfl) ?_
  intro pr en s mi args below meth co Q hx hb hml hown hts hK hP hret ls hl
  have hown : s.vm.findClass RX0 = some mi.cls := hown
  have iX0 : ∀ w ∈ wsX00, w ∈ wsX0_downLevel := by decide +kernel
  have hl : lv_has ls 3 [(0, .ref c), (1, .int (iI sp))] := hl
  have hdn := dnL_bd (ah := ah) hsp (by omega)
  have J24_1 : ∀ (x : Int), (x = dnL ah sp) → ∀ ls : Array Slot, lv_has ls 3 [(0, .ref c), (1, .int (iI sp))] → W pr l en rm_X0_downLevel s mi args below meth co s.heap [] 0 0 Q (F0 mi 24 ls [.int (iI x)]) := by
    intro x hx9 ls hl
    rw [← hx9] at hdn
    refine lv_istore_n (lv' := [(2, .int (iI x)), (0, .ref c), (1, .int (iI sp))]) hx hb dX0_downLevel_24 rfl hl (by decide) rfl (fun ls hl => ?_)
    refine lv_aload_n hx hb dX0_downLevel_25 rfl (lv_at hl 1 rfl) ?_
    refine va_get (D := D) (ci := 0) (v := .int (iI be)) (C := RX0) (T := TX0) (N := 11) hx hb hts iX0 hown hK.1 hP 0 rfl rfl 10 (by decide) (hts (.fieldLink RX0 41 "CloseClocks$Clocks" "behind" "I") (by decide +kernel)) (fun _ h9 => h9) rfl dX0_downLevel_26 ?_
    refine kx_const (z := 2) hx hb dX0_downLevel_29 rfl ?_
    refine lv_iload_n hx hb dX0_downLevel_30 rfl (lv_at hl 0 rfl) ?_
    refine kx_imul hx hb dX0_downLevel_31 ?_
    refine lv_iload_n hx hb dX0_downLevel_32 rfl (lv_at hl 2 rfl) ?_
    refine kx_imul hx hb dX0_downLevel_33 ?_
    refine kx_icmp_lt (tgt := 41) hx hb (by omega) (by omega) dX0_downLevel_34 (by decide) (fun h34 => ?_) (fun h34 => ?_)
    · skip
      refine kx_ldc (z := -100000001) hx hb hown (hts (.constant RX0 37 (-100000001)) (by decide +kernel)) dX0_downLevel_41 (by decide) ?_
      refine kx_top (b := (xDn ah be sp)) (by first | (rw [xDn, ← hx9, if_pos (by omega)]) | (rw [xDn, ← hx9, if_neg (by omega)])) ?_
      exact hret _ _ dX0_downLevel_43
    · skip
      refine lv_iload_n hx hb dX0_downLevel_37 rfl (lv_at hl 0 rfl) ?_
      refine lv_goto (tgt := 43) hx hb dX0_downLevel_38 (by decide) ?_
      refine kx_top (b := (xDn ah be sp)) (by first | (rw [xDn, ← hx9, if_pos (by omega)]) | (rw [xDn, ← hx9, if_neg (by omega)])) ?_
      exact hret _ _ dX0_downLevel_43
  refine lv_aload_n hx hb dX0_downLevel_0 rfl (lv_at hl 0 rfl) ?_
  refine va_get (D := D) (ci := 0) (v := .int (iI ah)) (C := RX0) (T := TX0) (N := 11) hx hb hts iX0 hown hK.1 hP 0 rfl rfl 9 (by decide) (hts (.fieldLink RX0 38 "CloseClocks$Clocks" "ahead" "I") (by decide +kernel)) (fun _ h9 => h9) rfl dX0_downLevel_1 ?_
  refine kx_const (z := 2) hx hb dX0_downLevel_4 rfl ?_
  refine lv_iload_n hx hb dX0_downLevel_5 rfl (lv_at hl 1 rfl) ?_
  refine kx_imul hx hb dX0_downLevel_6 ?_
  refine kx_icmp_gt (tgt := 14) hx hb (by omega) (by omega) dX0_downLevel_7 (by decide) (fun h7 => ?_) (fun h7 => ?_)
  · skip
    refine lv_aload_n hx hb dX0_downLevel_14 rfl (lv_at hl 0 rfl) ?_
    refine va_get (D := D) (ci := 0) (v := .int (iI ah)) (C := RX0) (T := TX0) (N := 11) hx hb hts iX0 hown hK.1 hP 0 rfl rfl 9 (by decide) (hts (.fieldLink RX0 38 "CloseClocks$Clocks" "ahead" "I") (by decide +kernel)) (fun _ h9 => h9) rfl dX0_downLevel_15 ?_
    refine kx_const (z := 2) hx hb dX0_downLevel_18 rfl ?_
    refine lv_iload_n hx hb dX0_downLevel_19 rfl (lv_at hl 1 rfl) ?_
    refine kx_imul hx hb dX0_downLevel_20 ?_
    refine kx_cSN (As := [.int (iI ah), .int (iI (2 * sp))]) (rest := []) (st1 := [.int (iI (dvU ah (2 * sp)))]) ⟨hx, hb, hml, hown, hts⟩ (c_X3_dividedUp l D cI cZ ah (2 * sp) (by first | assumption | omega) (by first | assumption | omega)) ⟨va_cnB 2 hts gX0_downLevel_X3_dividedUp_n123 rfl rfl rfl (hK.2.2 (RX0, 123, yX3_dividedUp) (List.mem_of_getElem? (i := 5) rfl)) (hts (.initialized RX3) (by decide +kernel)) (by decide +kernel) ⟨Nat.le_of_ble_eq_true rfl, Nat.le_of_ble_eq_true rfl⟩, hts (.static yX3_dividedUp) (by decide +kernel), trivial⟩ hK (hP.sub (ws' := []) [] rfl) rfl hl.1 rfl (Nat.le_of_ble_eq_true rfl) dX0_downLevel_21 ⟨Nat.zero_le _, Nat.zero_le _⟩ rfl ?_
    exact J24_1 (dvU ah (2 * sp)) (by first | (rw [dnL, if_pos (by omega)]) | (rw [dnL, if_neg (by omega)])) ls (lv_sub hl [0, 1] rfl)
  · skip
    refine kx_const (z := 1) hx hb dX0_downLevel_10 rfl ?_
    refine lv_goto (tgt := 24) hx hb dX0_downLevel_11 (by decide) ?_
    exact J24_1 1 (by first | (rw [dnL, if_pos (by omega)]) | (rw [dnL, if_neg (by omega)])) ls (lv_sub hl [0, 1] rfl)
def rm_X0_aheadOf : Room := ({ frames := 3, cells := 0, slots := 0, locals := 72 } : Room)
set_option maxHeartbeats 4000000 in
set_option maxRecDepth 100000 in
theorem c_X0_aheadOf (l : Launch) (D : va_G) (cI cZ : ClassId) (c c1 c2 c3 c4 c5 c6 n n1 n2 n3 : Nat) (pa ra fa ft dy er : Nat → Int) (ti gr ah be no li : Int) (dg nb wy : Nat → Int) (v : Nat) (hv : v < 6) (hpa : ∀ k : Nat, k < 24 → 0 ≤ pa k ∧ pa k ≤ 50000000) (hdy : ∀ k : Nat, k < 36 → 0 ≤ dy k ∧ dy k ≤ 3) (her : ∀ k : Nat, k < 36 → -9 ≤ er k ∧ er k ≤ 9) (hdg : ∀ v : Nat, v < 6 → 0 ≤ dg v ∧ dg v ≤ 5) (hnb : ∀ v k : Nat, v < 6 → (k : Int) < dg v → 0 ≤ nb (v * 6 + k) ∧ nb (v * 6 + k) < 6) : kWR l yX0_aheadOf wsX0_aheadOf rm_X0_aheadOf D cI cZ [.ref c, .int (iI (v : Int))] (ckW cI cZ c c1 c2 c3 c4 c5 c6 n n1 n2 n3 pa ra fa ft dy er ti gr ah be no li dg nb wy) (fun u : Unit => some (.int (iI (xAh pa dy er dg nb v)))) (fun u : Unit => True) (fun u : Unit => ckW cI cZ c c1 c2 c3 c4 c5 c6 n n1 n2 n3 pa ra fa ft dy er ti gr (xAh pa dy er dg nb v) (xBe pa dy er dg nb v) no li dg nb wy) 0 0 := by
  refine kx_WRi (cc := cX0_aheadOf) (maxL := 2) (by decide) rfl (Nat.le_of_ble_eq_true rfl) ?_
  intro pr en s mi args below meth co Q A hx hb hml hown hts hK hin hA hP hD hS hret ls hl
  have hown : s.vm.findClass RX0 = some mi.cls := hown
  have iX0 : ∀ w ∈ wsX00, w ∈ wsX0_aheadOf := by decide +kernel
  have hl : lv_has ls 2 [(0, .ref c), (1, .int (iI (v : Int)))] := hl
  generalize hH0 : s.heap = H0 at hA hP hS hret ⊢
  obtain ⟨H, hH⟩ : ∃ H : Heap, H = H0 := ⟨_, rfl⟩
  obtain ⟨locs, hlocs⟩ : ∃ locs : List Loc, locs = [] := ⟨_, rfl⟩
  have hS : va_S A H0 H locs := by rw [hH, hlocs]; exact hS
  have hP : va_P D vwCl (ckW cI cZ c c1 c2 c3 c4 c5 c6 n n1 n2 n3 pa ra fa ft dy er ti gr ah be no li dg nb wy) H := by rw [hH]; exact hP
  suffices hgo : W pr l en rm_X0_aheadOf s mi args below meth co H locs 0 0 Q (F0 mi 0 ls []) by rw [hH, hlocs] at hgo; exact hgo
  clear hH hlocs
  refine lv_aload_n hx hb dX0_aheadOf_0 rfl (lv_at hl 0 rfl) ?_
  refine lv_iload_n hx hb dX0_aheadOf_1 rfl (lv_at hl 1 rfl) ?_
  refine kx_cVW (As := [.int (iI (v : Int))]) (rest := []) (wr := []) (q0 := 0) (ci := 0) ⟨hx, hb, hml, hown, hts⟩ (c_X0_compareGuesses l D cI cZ c c1 c2 c3 c4 c5 c6 n n1 n2 n3 pa ra fa ft dy er ti gr ah be no li dg nb wy v (by first | assumption | omega) (by first | assumption | omega) (by first | assumption | omega) (by first | assumption | omega) (by first | assumption | omega) (by first | assumption | omega)) (cwV 1 hts gX0_aheadOf_X0_compareGuesses rfl rfl rfl (by decide +kernel) ⟨Nat.le_of_ble_eq_true rfl, Nat.le_of_ble_eq_true rfl⟩) hK hP hD hS hA [0, 1, 2, 3, 4, 5, 6, 7, 8, 9, 10] [] rfl rfl (by decide) (by decide) (by decide) rfl rfl rfl hl.1 rfl (Nat.le_of_ble_eq_true rfl) dX0_aheadOf_2 ⟨Nat.le_of_ble_eq_true rfl, Nat.le_of_ble_eq_true rfl⟩ (fun u H locs hq hP hD hS => ?_)
  have hP : va_P D vwCl (ckW cI cZ c c1 c2 c3 c4 c5 c6 n n1 n2 n3 pa ra fa ft dy er ti gr (xAh pa dy er dg nb v) (xBe pa dy er dg nb v) no li dg nb wy) H := hP.sub [0, 1, 2, 3, 4, 5, 6, 7, 8, 9, 10] rfl
  have hD : va_D A (ckW cI cZ c c1 c2 c3 c4 c5 c6 n n1 n2 n3 pa ra fa ft dy er ti gr (xAh pa dy er dg nb v) (xBe pa dy er dg nb v) no li dg nb wy) := hD.sub [0, 1, 2, 3, 4, 5, 6, 7, 8, 9, 10] (by decide) rfl
  refine W.eq (g2 := F0 mi 5 ls []) rfl ?_
  refine lv_aload_n hx hb dX0_aheadOf_5 rfl (lv_at hl 0 rfl) ?_
  refine va_get (D := D) (ci := 0) (v := .int (iI (xAh pa dy er dg nb v))) (C := RX0) (T := TX0) (N := 11) hx hb hts iX0 hown hK.1 hP 0 rfl rfl 9 (by decide) (hts (.fieldLink RX0 38 "CloseClocks$Clocks" "ahead" "I") (by decide +kernel)) (fun _ h9 => h9) rfl dX0_aheadOf_6 ?_
  exact hret () H locs _ _ (trivial) hP hD hS dX0_aheadOf_9
def rm_X0_behindOf : Room := ({ frames := 3, cells := 0, slots := 0, locals := 72 } : Room)
set_option maxHeartbeats 4000000 in
set_option maxRecDepth 100000 in
theorem c_X0_behindOf (l : Launch) (D : va_G) (cI cZ : ClassId) (c c1 c2 c3 c4 c5 c6 n n1 n2 n3 : Nat) (pa ra fa ft dy er : Nat → Int) (ti gr ah be no li : Int) (dg nb wy : Nat → Int) (v : Nat) (hv : v < 6) (hpa : ∀ k : Nat, k < 24 → 0 ≤ pa k ∧ pa k ≤ 50000000) (hdy : ∀ k : Nat, k < 36 → 0 ≤ dy k ∧ dy k ≤ 3) (her : ∀ k : Nat, k < 36 → -9 ≤ er k ∧ er k ≤ 9) (hdg : ∀ v : Nat, v < 6 → 0 ≤ dg v ∧ dg v ≤ 5) (hnb : ∀ v k : Nat, v < 6 → (k : Int) < dg v → 0 ≤ nb (v * 6 + k) ∧ nb (v * 6 + k) < 6) : kWR l yX0_behindOf wsX0_behindOf rm_X0_behindOf D cI cZ [.ref c, .int (iI (v : Int))] (ckW cI cZ c c1 c2 c3 c4 c5 c6 n n1 n2 n3 pa ra fa ft dy er ti gr ah be no li dg nb wy) (fun u : Unit => some (.int (iI (xBe pa dy er dg nb v)))) (fun u : Unit => True) (fun u : Unit => ckW cI cZ c c1 c2 c3 c4 c5 c6 n n1 n2 n3 pa ra fa ft dy er ti gr (xAh pa dy er dg nb v) (xBe pa dy er dg nb v) no li dg nb wy) 0 0 := by
  refine kx_WRi (cc := cX0_behindOf) (maxL := 2) (by decide) rfl (Nat.le_of_ble_eq_true rfl) ?_
  intro pr en s mi args below meth co Q A hx hb hml hown hts hK hin hA hP hD hS hret ls hl
  have hown : s.vm.findClass RX0 = some mi.cls := hown
  have iX0 : ∀ w ∈ wsX00, w ∈ wsX0_behindOf := by decide +kernel
  have hl : lv_has ls 2 [(0, .ref c), (1, .int (iI (v : Int)))] := hl
  generalize hH0 : s.heap = H0 at hA hP hS hret ⊢
  obtain ⟨H, hH⟩ : ∃ H : Heap, H = H0 := ⟨_, rfl⟩
  obtain ⟨locs, hlocs⟩ : ∃ locs : List Loc, locs = [] := ⟨_, rfl⟩
  have hS : va_S A H0 H locs := by rw [hH, hlocs]; exact hS
  have hP : va_P D vwCl (ckW cI cZ c c1 c2 c3 c4 c5 c6 n n1 n2 n3 pa ra fa ft dy er ti gr ah be no li dg nb wy) H := by rw [hH]; exact hP
  suffices hgo : W pr l en rm_X0_behindOf s mi args below meth co H locs 0 0 Q (F0 mi 0 ls []) by rw [hH, hlocs] at hgo; exact hgo
  clear hH hlocs
  refine lv_aload_n hx hb dX0_behindOf_0 rfl (lv_at hl 0 rfl) ?_
  refine lv_iload_n hx hb dX0_behindOf_1 rfl (lv_at hl 1 rfl) ?_
  refine kx_cVW (As := [.int (iI (v : Int))]) (rest := []) (wr := []) (q0 := 0) (ci := 0) ⟨hx, hb, hml, hown, hts⟩ (c_X0_compareGuesses l D cI cZ c c1 c2 c3 c4 c5 c6 n n1 n2 n3 pa ra fa ft dy er ti gr ah be no li dg nb wy v (by first | assumption | omega) (by first | assumption | omega) (by first | assumption | omega) (by first | assumption | omega) (by first | assumption | omega) (by first | assumption | omega)) (cwV 1 hts gX0_behindOf_X0_compareGuesses rfl rfl rfl (by decide +kernel) ⟨Nat.le_of_ble_eq_true rfl, Nat.le_of_ble_eq_true rfl⟩) hK hP hD hS hA [0, 1, 2, 3, 4, 5, 6, 7, 8, 9, 10] [] rfl rfl (by decide) (by decide) (by decide) rfl rfl rfl hl.1 rfl (Nat.le_of_ble_eq_true rfl) dX0_behindOf_2 ⟨Nat.le_of_ble_eq_true rfl, Nat.le_of_ble_eq_true rfl⟩ (fun u H locs hq hP hD hS => ?_)
  have hP : va_P D vwCl (ckW cI cZ c c1 c2 c3 c4 c5 c6 n n1 n2 n3 pa ra fa ft dy er ti gr (xAh pa dy er dg nb v) (xBe pa dy er dg nb v) no li dg nb wy) H := hP.sub [0, 1, 2, 3, 4, 5, 6, 7, 8, 9, 10] rfl
  have hD : va_D A (ckW cI cZ c c1 c2 c3 c4 c5 c6 n n1 n2 n3 pa ra fa ft dy er ti gr (xAh pa dy er dg nb v) (xBe pa dy er dg nb v) no li dg nb wy) := hD.sub [0, 1, 2, 3, 4, 5, 6, 7, 8, 9, 10] (by decide) rfl
  refine W.eq (g2 := F0 mi 5 ls []) rfl ?_
  refine lv_aload_n hx hb dX0_behindOf_5 rfl (lv_at hl 0 rfl) ?_
  refine va_get (D := D) (ci := 0) (v := .int (iI (xBe pa dy er dg nb v))) (C := RX0) (T := TX0) (N := 11) hx hb hts iX0 hown hK.1 hP 0 rfl rfl 10 (by decide) (hts (.fieldLink RX0 41 "CloseClocks$Clocks" "behind" "I") (by decide +kernel)) (fun _ h9 => h9) rfl dX0_behindOf_6 ?_
  exact hret () H locs _ _ (trivial) hP hD hS dX0_behindOf_9
def rm_X0_leastUp : Room := ({ frames := 3, cells := 0, slots := 0, locals := 72 } : Room)
set_option maxHeartbeats 4000000 in
set_option maxRecDepth 100000 in
theorem c_X0_leastUp (l : Launch) (D : va_G) (cI cZ : ClassId) (c c1 c2 c3 c4 c5 c6 n n1 n2 n3 : Nat) (pa ra fa ft dy er : Nat → Int) (ti gr ah be no li : Int) (dg nb wy : Nat → Int) (v : Nat) (sp : Int) (hv : v < 6) (hpa : ∀ k : Nat, k < 24 → 0 ≤ pa k ∧ pa k ≤ 50000000) (hdy : ∀ k : Nat, k < 36 → 0 ≤ dy k ∧ dy k ≤ 3) (her : ∀ k : Nat, k < 36 → -9 ≤ er k ∧ er k ≤ 9) (hdg : ∀ v : Nat, v < 6 → 0 ≤ dg v ∧ dg v ≤ 5) (hnb : ∀ v k : Nat, v < 6 → (k : Int) < dg v → 0 ≤ nb (v * 6 + k) ∧ nb (v * 6 + k) < 6) (hsp : 1 ≤ sp ∧ sp ≤ 500) : kWR l yX0_leastUp wsX0_leastUp rm_X0_leastUp D cI cZ [.ref c, .int (iI (v : Int)), .int (iI sp)] (ckW cI cZ c c1 c2 c3 c4 c5 c6 n n1 n2 n3 pa ra fa ft dy er ti gr ah be no li dg nb wy) (fun u : Unit => some (.int (iI (xUp (xAh pa dy er dg nb v) (xBe pa dy er dg nb v) sp)))) (fun u : Unit => True) (fun u : Unit => ckW cI cZ c c1 c2 c3 c4 c5 c6 n n1 n2 n3 pa ra fa ft dy er ti gr (xAh pa dy er dg nb v) (xBe pa dy er dg nb v) no li dg nb wy) 0 0 := by
  refine kx_WRi (cc := cX0_leastUp) (maxL := 3) (by decide) rfl (Nat.le_of_ble_eq_true rfl) ?_
  intro pr en s mi args below meth co Q A hx hb hml hown hts hK hin hA hP hD hS hret ls hl
  have hown : s.vm.findClass RX0 = some mi.cls := hown
  have hl : lv_has ls 3 [(0, .ref c), (1, .int (iI (v : Int))), (2, .int (iI sp))] := hl
  generalize hH0 : s.heap = H0 at hA hP hS hret ⊢
  obtain ⟨H, hH⟩ : ∃ H : Heap, H = H0 := ⟨_, rfl⟩
  obtain ⟨locs, hlocs⟩ : ∃ locs : List Loc, locs = [] := ⟨_, rfl⟩
  have hS : va_S A H0 H locs := by rw [hH, hlocs]; exact hS
  have hP : va_P D vwCl (ckW cI cZ c c1 c2 c3 c4 c5 c6 n n1 n2 n3 pa ra fa ft dy er ti gr ah be no li dg nb wy) H := by rw [hH]; exact hP
  suffices hgo : W pr l en rm_X0_leastUp s mi args below meth co H locs 0 0 Q (F0 mi 0 ls []) by rw [hH, hlocs] at hgo; exact hgo
  clear hH hlocs
  have hrg := xA_rng (nb := nb) hpa hdy her hv (dg v).toNat (fun j hj => hnb v j hv (by omega))
  refine lv_aload_n hx hb dX0_leastUp_0 rfl (lv_at hl 0 rfl) ?_
  refine lv_iload_n hx hb dX0_leastUp_1 rfl (lv_at hl 1 rfl) ?_
  refine kx_cVW (As := [.int (iI (v : Int))]) (rest := []) (wr := []) (q0 := 0) (ci := 0) ⟨hx, hb, hml, hown, hts⟩ (c_X0_compareGuesses l D cI cZ c c1 c2 c3 c4 c5 c6 n n1 n2 n3 pa ra fa ft dy er ti gr ah be no li dg nb wy v (by first | assumption | omega) (by first | assumption | omega) (by first | assumption | omega) (by first | assumption | omega) (by first | assumption | omega) (by first | assumption | omega)) (cwV 1 hts gX0_leastUp_X0_compareGuesses rfl rfl rfl (by decide +kernel) ⟨Nat.le_of_ble_eq_true rfl, Nat.le_of_ble_eq_true rfl⟩) hK hP hD hS hA [0, 1, 2, 3, 4, 5, 6, 7, 8, 9, 10] [] rfl rfl (by decide) (by decide) (by decide) rfl rfl rfl hl.1 rfl (Nat.le_of_ble_eq_true rfl) dX0_leastUp_2 ⟨Nat.le_of_ble_eq_true rfl, Nat.le_of_ble_eq_true rfl⟩ (fun u H locs hq hP hD hS => ?_)
  have hP : va_P D vwCl (ckW cI cZ c c1 c2 c3 c4 c5 c6 n n1 n2 n3 pa ra fa ft dy er ti gr (xAh pa dy er dg nb v) (xBe pa dy er dg nb v) no li dg nb wy) H := hP.sub [0, 1, 2, 3, 4, 5, 6, 7, 8, 9, 10] rfl
  have hD : va_D A (ckW cI cZ c c1 c2 c3 c4 c5 c6 n n1 n2 n3 pa ra fa ft dy er ti gr (xAh pa dy er dg nb v) (xBe pa dy er dg nb v) no li dg nb wy) := hD.sub [0, 1, 2, 3, 4, 5, 6, 7, 8, 9, 10] (by decide) rfl
  refine W.eq (g2 := F0 mi 5 ls []) rfl ?_
  refine lv_aload_n hx hb dX0_leastUp_5 rfl (lv_at hl 0 rfl) ?_
  refine lv_iload_n hx hb dX0_leastUp_6 rfl (lv_at hl 2 rfl) ?_
  refine kx_cV (As := [.int (iI sp)]) (rest := []) (st1 := [.int (iI (xUp (xAh pa dy er dg nb v) (xBe pa dy er dg nb v) sp))]) (q0 := 0) (ci := 0) ⟨hx, hb, hml, hown, hts⟩ (c_X0_upLevel l D cI cZ c c1 c2 c3 c4 c5 c6 n n1 n2 n3 pa ra fa ft dy er ti gr (xAh pa dy er dg nb v) (xBe pa dy er dg nb v) no li dg nb wy sp (by first | assumption | omega) (hrg)) (cwV 1 hts gX0_leastUp_X0_upLevel rfl rfl rfl (by decide +kernel) ⟨Nat.le_of_ble_eq_true rfl, Nat.le_of_ble_eq_true rfl⟩) hK hP rfl rfl rfl hl.1 rfl (Nat.le_of_ble_eq_true rfl) dX0_leastUp_7 ⟨Nat.zero_le _, Nat.zero_le _⟩ rfl ?_
  exact hret () H locs _ _ (trivial) hP hD hS dX0_leastUp_10
def rm_X0_leastDown : Room := ({ frames := 3, cells := 0, slots := 0, locals := 72 } : Room)
set_option maxHeartbeats 4000000 in
set_option maxRecDepth 100000 in
theorem c_X0_leastDown (l : Launch) (D : va_G) (cI cZ : ClassId) (c c1 c2 c3 c4 c5 c6 n n1 n2 n3 : Nat) (pa ra fa ft dy er : Nat → Int) (ti gr ah be no li : Int) (dg nb wy : Nat → Int) (v : Nat) (sp : Int) (hv : v < 6) (hpa : ∀ k : Nat, k < 24 → 0 ≤ pa k ∧ pa k ≤ 50000000) (hdy : ∀ k : Nat, k < 36 → 0 ≤ dy k ∧ dy k ≤ 3) (her : ∀ k : Nat, k < 36 → -9 ≤ er k ∧ er k ≤ 9) (hdg : ∀ v : Nat, v < 6 → 0 ≤ dg v ∧ dg v ≤ 5) (hnb : ∀ v k : Nat, v < 6 → (k : Int) < dg v → 0 ≤ nb (v * 6 + k) ∧ nb (v * 6 + k) < 6) (hsp : 1 ≤ sp ∧ sp ≤ 500) : kWR l yX0_leastDown wsX0_leastDown rm_X0_leastDown D cI cZ [.ref c, .int (iI (v : Int)), .int (iI sp)] (ckW cI cZ c c1 c2 c3 c4 c5 c6 n n1 n2 n3 pa ra fa ft dy er ti gr ah be no li dg nb wy) (fun u : Unit => some (.int (iI (xDn (xAh pa dy er dg nb v) (xBe pa dy er dg nb v) sp)))) (fun u : Unit => True) (fun u : Unit => ckW cI cZ c c1 c2 c3 c4 c5 c6 n n1 n2 n3 pa ra fa ft dy er ti gr (xAh pa dy er dg nb v) (xBe pa dy er dg nb v) no li dg nb wy) 0 0 := by
  refine kx_WRi (cc := cX0_leastDown) (maxL := 3) (by decide) rfl (Nat.le_of_ble_eq_true rfl) ?_
  intro pr en s mi args below meth co Q A hx hb hml hown hts hK hin hA hP hD hS hret ls hl
  have hown : s.vm.findClass RX0 = some mi.cls := hown
  have hl : lv_has ls 3 [(0, .ref c), (1, .int (iI (v : Int))), (2, .int (iI sp))] := hl
  generalize hH0 : s.heap = H0 at hA hP hS hret ⊢
  obtain ⟨H, hH⟩ : ∃ H : Heap, H = H0 := ⟨_, rfl⟩
  obtain ⟨locs, hlocs⟩ : ∃ locs : List Loc, locs = [] := ⟨_, rfl⟩
  have hS : va_S A H0 H locs := by rw [hH, hlocs]; exact hS
  have hP : va_P D vwCl (ckW cI cZ c c1 c2 c3 c4 c5 c6 n n1 n2 n3 pa ra fa ft dy er ti gr ah be no li dg nb wy) H := by rw [hH]; exact hP
  suffices hgo : W pr l en rm_X0_leastDown s mi args below meth co H locs 0 0 Q (F0 mi 0 ls []) by rw [hH, hlocs] at hgo; exact hgo
  clear hH hlocs
  have hrg := xA_rng (nb := nb) hpa hdy her hv (dg v).toNat (fun j hj => hnb v j hv (by omega))
  refine lv_aload_n hx hb dX0_leastDown_0 rfl (lv_at hl 0 rfl) ?_
  refine lv_iload_n hx hb dX0_leastDown_1 rfl (lv_at hl 1 rfl) ?_
  refine kx_cVW (As := [.int (iI (v : Int))]) (rest := []) (wr := []) (q0 := 0) (ci := 0) ⟨hx, hb, hml, hown, hts⟩ (c_X0_compareGuesses l D cI cZ c c1 c2 c3 c4 c5 c6 n n1 n2 n3 pa ra fa ft dy er ti gr ah be no li dg nb wy v (by first | assumption | omega) (by first | assumption | omega) (by first | assumption | omega) (by first | assumption | omega) (by first | assumption | omega) (by first | assumption | omega)) (cwV 1 hts gX0_leastDown_X0_compareGuesses rfl rfl rfl (by decide +kernel) ⟨Nat.le_of_ble_eq_true rfl, Nat.le_of_ble_eq_true rfl⟩) hK hP hD hS hA [0, 1, 2, 3, 4, 5, 6, 7, 8, 9, 10] [] rfl rfl (by decide) (by decide) (by decide) rfl rfl rfl hl.1 rfl (Nat.le_of_ble_eq_true rfl) dX0_leastDown_2 ⟨Nat.le_of_ble_eq_true rfl, Nat.le_of_ble_eq_true rfl⟩ (fun u H locs hq hP hD hS => ?_)
  have hP : va_P D vwCl (ckW cI cZ c c1 c2 c3 c4 c5 c6 n n1 n2 n3 pa ra fa ft dy er ti gr (xAh pa dy er dg nb v) (xBe pa dy er dg nb v) no li dg nb wy) H := hP.sub [0, 1, 2, 3, 4, 5, 6, 7, 8, 9, 10] rfl
  have hD : va_D A (ckW cI cZ c c1 c2 c3 c4 c5 c6 n n1 n2 n3 pa ra fa ft dy er ti gr (xAh pa dy er dg nb v) (xBe pa dy er dg nb v) no li dg nb wy) := hD.sub [0, 1, 2, 3, 4, 5, 6, 7, 8, 9, 10] (by decide) rfl
  refine W.eq (g2 := F0 mi 5 ls []) rfl ?_
  refine lv_aload_n hx hb dX0_leastDown_5 rfl (lv_at hl 0 rfl) ?_
  refine lv_iload_n hx hb dX0_leastDown_6 rfl (lv_at hl 2 rfl) ?_
  refine kx_cV (As := [.int (iI sp)]) (rest := []) (st1 := [.int (iI (xDn (xAh pa dy er dg nb v) (xBe pa dy er dg nb v) sp))]) (q0 := 0) (ci := 0) ⟨hx, hb, hml, hown, hts⟩ (c_X0_downLevel l D cI cZ c c1 c2 c3 c4 c5 c6 n n1 n2 n3 pa ra fa ft dy er ti gr (xAh pa dy er dg nb v) (xBe pa dy er dg nb v) no li dg nb wy sp (by first | assumption | omega) (hrg)) (cwV 1 hts gX0_leastDown_X0_downLevel rfl rfl rfl (by decide +kernel) ⟨Nat.le_of_ble_eq_true rfl, Nat.le_of_ble_eq_true rfl⟩) hK hP rfl rfl rfl hl.1 rfl (Nat.le_of_ble_eq_true rfl) dX0_leastDown_7 ⟨Nat.zero_le _, Nat.zero_le _⟩ rfl ?_
  exact hret () H locs _ _ (trivial) hP hD hS dX0_leastDown_10
def rm_X0_move : Room := ({ frames := 3, cells := 0, slots := 0, locals := 72 } : Room)
set_option maxHeartbeats 4000000 in
set_option maxRecDepth 100000 in
theorem c_X0_move (l : Launch) (D : va_G) (cI cZ : ClassId) (c c1 c2 c3 c4 c5 c6 n n1 n2 n3 : Nat) (pa ra fa ft dy er : Nat → Int) (ti gr ah be no li : Int) (dg nb wy : Nat → Int) (sp bq : Int) (hno : 0 ≤ no ∧ no ≤ 6) (hpa : ∀ k : Nat, k < 24 → 0 ≤ pa k ∧ pa k ≤ 50000000) (hdy : ∀ k : Nat, k < 36 → 0 ≤ dy k ∧ dy k ≤ 3) (her : ∀ k : Nat, k < 36 → -9 ≤ er k ∧ er k ≤ 9) (hdg : ∀ v : Nat, v < 6 → 0 ≤ dg v ∧ dg v ≤ 5) (hnb : ∀ v k : Nat, v < 6 → (k : Int) < dg v → 0 ≤ nb (v * 6 + k) ∧ nb (v * 6 + k) < 6) (hsp : 1 ≤ sp ∧ sp ≤ 500) : kWR l yX0_move wsX0_move rm_X0_move D cI cZ [.ref c, .int (iI sp), .int (iI bq)] (ckW cI cZ c c1 c2 c3 c4 c5 c6 n n1 n2 n3 pa ra fa ft dy er ti gr ah be no li dg nb wy) (fun u : Int × Int => none) (fun u : Int × Int => True) (fun u : Int × Int => ckW cI cZ c c1 c2 c3 c4 c5 c6 n n1 n2 n3 (xPa pa ra fa dy er dg nb no sp bq) ra (xFa pa fa dy er dg nb no sp) ft dy er ti gr u.1 u.2 no li dg nb wy) 0 0 := by
  refine kx_WRv (cc := cX0_move) (maxL := 4) (by decide) rfl (Nat.le_of_ble_eq_true rfl) ?_
  intro pr en s mi args below meth co Q A hx hb hml hown hts hK hin hA hP hD hS hret ls hl
  have hown : s.vm.findClass RX0 = some mi.cls := hown
  have iX0 : ∀ w ∈ wsX00, w ∈ wsX0_move := by decide +kernel
  have iX1 : ∀ w ∈ wsX10, w ∈ wsX0_move := by decide +kernel
  have hl : lv_has ls 4 [(0, .ref c), (1, .int (iI sp)), (2, .int (iI bq))] := hl
  generalize hH0 : s.heap = H0 at hA hP hS hret ⊢
  obtain ⟨H, hH⟩ : ∃ H : Heap, H = H0 := ⟨_, rfl⟩
  obtain ⟨locs, hlocs⟩ : ∃ locs : List Loc, locs = [] := ⟨_, rfl⟩
  have hS : va_S A H0 H locs := by rw [hH, hlocs]; exact hS
  have hP : va_P D vwCl (ckW cI cZ c c1 c2 c3 c4 c5 c6 n n1 n2 n3 pa ra fa ft dy er ti gr ah be no li dg nb wy) H := by rw [hH]; exact hP
  suffices hgo : W pr l en rm_X0_move s mi args below meth co H locs 0 0 Q (F0 mi 0 ls []) by rw [hH, hlocs] at hgo; exact hgo
  clear hH hlocs
  refine kx_const (z := 0) hx hb dX0_move_0 rfl ?_
  refine lv_istore_n (lv' := [(3, .int (iI 0)), (0, .ref c), (1, .int (iI sp)), (2, .int (iI bq))]) hx hb dX0_move_1 rfl hl (by decide) rfl (fun ls hl => ?_)
  have L2 : ∀ (fu : Nat) (v : Nat) (gf : Nat → Int) (a1 : Int) (b1 : Int), ((v : Int) ≤ no) → (∀ k : Nat, k < 6 → gf k = if k < v then (xNF pa fa dy er dg nb sp) k else fa k) → no.toNat - v < fu → ∀ (H : Heap) (locs : List Loc), va_P D vwCl (ckW cI cZ c c1 c2 c3 c4 c5 c6 n n1 n2 n3 pa ra gf ft dy er ti gr a1 b1 no li dg nb wy) H → va_D A (ckW cI cZ c c1 c2 c3 c4 c5 c6 n n1 n2 n3 pa ra gf ft dy er ti gr a1 b1 no li dg nb wy) → va_S A H0 H locs → ∀ ls : Array Slot, lv_has ls 4 [(0, .ref c), (1, .int (iI sp)), (2, .int (iI bq)), (3, .int (iI (v : Int)))] → W pr l en rm_X0_move s mi args below meth co H locs 0 0 Q (F0 mi 2 ls []) := by
    intro fu
    induction fu with
    | zero =>
      intro v gf a1 b1 hv hgf hfu
      exact absurd hfu (Nat.not_lt_zero _)
    | succ fu ih2 =>
      intro v gf a1 b1 hv hgf hfu H locs hP hD hS ls hl
      refine lv_iload_n hx hb dX0_move_2 rfl (lv_at hl 3 rfl) ?_
      refine lv_aload_n hx hb dX0_move_3 rfl (lv_at hl 0 rfl) ?_
      refine va_get (D := D) (ci := 0) (v := .ref n) (C := RX0) (T := TX0) (N := 11) hx hb hts iX0 hown hK.1 hP 0 rfl rfl 0 (by decide) (hts (.fieldLink RX0 44 "CloseClocks$Clocks" "shape" "LCloseClocks$Net;") (by decide +kernel)) (fun _ h9 => h9) rfl dX0_move_4 ?_
      refine va_getN (D := D) (ci := 1) (v := .int (iI no)) (C := RX1) (T := TX1) (N := 5) hx hb hts iX1 hown hK.1 hP 7 rfl rfl 3 (by decide) (va_Nw.use rfl (hK.2.1 (RX0, 82, RX1, "nodes", "I") (List.mem_of_getElem? (i := 3) rfl))) (fun _ h9 => h9) rfl dX0_move_7 ?_
      refine kx_icmp_ge (tgt := 61) hx hb (by omega) (by omega) dX0_move_10 (by decide) (fun h10 => ?_) (fun h10 => ?_)
      · skip
        obtain ⟨hP, hD⟩ := kx_arr (g' := (xFa pa fa dy er dg nb no sp)) hP hD 3 rfl (fun k hk => by rw [hgf k hk, show v = no.toNat by omega]; rfl)
        have hP : va_P D vwCl (ckW cI cZ c c1 c2 c3 c4 c5 c6 n n1 n2 n3 pa ra (xFa pa fa dy er dg nb no sp) ft dy er ti gr a1 b1 no li dg nb wy) H := hP
        have hD : va_D A (ckW cI cZ c c1 c2 c3 c4 c5 c6 n n1 n2 n3 pa ra (xFa pa fa dy er dg nb no sp) ft dy er ti gr a1 b1 no li dg nb wy) := hD
        refine lv_aload_n hx hb dX0_move_61 rfl (lv_at hl 0 rfl) ?_
        refine va_get (D := D) (ci := 0) (v := .ref c1) (C := RX0) (T := TX0) (N := 11) hx hb hts iX0 hown hK.1 hP 0 rfl rfl 1 (by decide) (hts (.fieldLink RX0 9 "CloseClocks$Clocks" "past" "[I") (by decide +kernel)) (fun _ h9 => h9) rfl dX0_move_62 ?_
        refine kx_const (z := 0) hx hb dX0_move_65 rfl ?_
        refine lv_aload_n hx hb dX0_move_66 rfl (lv_at hl 0 rfl) ?_
        refine va_get (D := D) (ci := 0) (v := .ref c1) (C := RX0) (T := TX0) (N := 11) hx hb hts iX0 hown hK.1 hP 0 rfl rfl 1 (by decide) (hts (.fieldLink RX0 9 "CloseClocks$Clocks" "past" "[I") (by decide +kernel)) (fun _ h9 => h9) rfl dX0_move_67 ?_
        refine kx_bipush (z := 6) hx hb dX0_move_70 (by decide) ?_
        refine kx_bipush (z := 18) hx hb dX0_move_72 (by decide) ?_
        refine kx_copy (n := 18) (dp := 6) (sp := 0) hx hb (hml.trans hl.1.symm) hown (hts (.methodLink RX0 76 arraycopyName) (by decide +kernel)) (hts (.native arraycopyName) (by decide +kernel)) (hts (.static arraycopyName) (by decide +kernel)) (hts (.initialized "java/lang/System") (by decide +kernel)) hK hP hD hS 1 1 rfl rfl (by decide) (by decide) (by decide) (by decide) (by decide) (by decide) (Nat.le_of_ble_eq_true rfl) dX0_move_74 (fun H locs hP hD hS => ?_)
        have hP : va_P D vwCl (ckW cI cZ c c1 c2 c3 c4 c5 c6 n n1 n2 n3 (va_cpy pa pa 0 6 18) ra (xFa pa fa dy er dg nb no sp) ft dy er ti gr a1 b1 no li dg nb wy) H := hP
        have hD : va_D A (ckW cI cZ c c1 c2 c3 c4 c5 c6 n n1 n2 n3 (va_cpy pa pa 0 6 18) ra (xFa pa fa dy er dg nb no sp) ft dy er ti gr a1 b1 no li dg nb wy) := hD
        refine kx_const (z := 0) hx hb dX0_move_77 rfl ?_
        refine lv_istore_n (lv' := [(3, .int (iI 0)), (0, .ref c), (1, .int (iI sp)), (2, .int (iI bq))]) hx hb dX0_move_78 rfl hl (by decide) rfl (fun ls hl => ?_)
        have L79 : ∀ (fu : Nat) (v : Nat) (gp : Nat → Int), ((v : Int) ≤ no) → (∀ k : Nat, k < 24 → gp k = if k < v then (fun q => pa q + (ra q + (xFa pa fa dy er dg nb no sp) q * bq)) k else (fun q => if q < 6 then pa q else pa (q - 6)) k) → no.toNat - v < fu → ∀ (H : Heap) (locs : List Loc), va_P D vwCl (ckW cI cZ c c1 c2 c3 c4 c5 c6 n n1 n2 n3 gp ra (xFa pa fa dy er dg nb no sp) ft dy er ti gr a1 b1 no li dg nb wy) H → va_D A (ckW cI cZ c c1 c2 c3 c4 c5 c6 n n1 n2 n3 gp ra (xFa pa fa dy er dg nb no sp) ft dy er ti gr a1 b1 no li dg nb wy) → va_S A H0 H locs → ∀ ls : Array Slot, lv_has ls 4 [(0, .ref c), (1, .int (iI sp)), (2, .int (iI bq)), (3, .int (iI (v : Int)))] → W pr l en rm_X0_move s mi args below meth co H locs 0 0 Q (F0 mi 79 ls []) := by
          intro fu
          induction fu with
          | zero =>
            intro v gp hv2 hgp hfu
            exact absurd hfu (Nat.not_lt_zero _)
          | succ fu ih79 =>
            intro v gp hv2 hgp hfu H locs hP hD hS ls hl
            refine lv_iload_n hx hb dX0_move_79 rfl (lv_at hl 3 rfl) ?_
            refine lv_aload_n hx hb dX0_move_80 rfl (lv_at hl 0 rfl) ?_
            refine va_get (D := D) (ci := 0) (v := .ref n) (C := RX0) (T := TX0) (N := 11) hx hb hts iX0 hown hK.1 hP 0 rfl rfl 0 (by decide) (hts (.fieldLink RX0 44 "CloseClocks$Clocks" "shape" "LCloseClocks$Net;") (by decide +kernel)) (fun _ h9 => h9) rfl dX0_move_81 ?_
            refine va_getN (D := D) (ci := 1) (v := .int (iI no)) (C := RX1) (T := TX1) (N := 5) hx hb hts iX1 hown hK.1 hP 7 rfl rfl 3 (by decide) (va_Nw.use rfl (hK.2.1 (RX0, 82, RX1, "nodes", "I") (List.mem_of_getElem? (i := 3) rfl))) (fun _ h9 => h9) rfl dX0_move_84 ?_
            refine kx_icmp_ge (tgt := 120) hx hb (by omega) (by omega) dX0_move_87 (by decide) (fun h87 => ?_) (fun h87 => ?_)
            · skip
              obtain ⟨hP, hD⟩ := kx_arr (g' := (xPa pa ra fa dy er dg nb no sp bq)) hP hD 1 rfl (fun k hk => by rw [hgp k hk, show v = no.toNat by omega]; unfold xPa; dsimp only; (repeat' split) <;> first | rfl | omega)
              have hP : va_P D vwCl (ckW cI cZ c c1 c2 c3 c4 c5 c6 n n1 n2 n3 (xPa pa ra fa dy er dg nb no sp bq) ra (xFa pa fa dy er dg nb no sp) ft dy er ti gr a1 b1 no li dg nb wy) H := hP
              have hD : va_D A (ckW cI cZ c c1 c2 c3 c4 c5 c6 n n1 n2 n3 (xPa pa ra fa dy er dg nb no sp bq) ra (xFa pa fa dy er dg nb no sp) ft dy er ti gr a1 b1 no li dg nb wy) := hD
              exact hret (a1, b1) H locs _ _ (trivial) hP hD hS dX0_move_120
            · skip
              refine lv_aload_n hx hb dX0_move_90 rfl (lv_at hl 0 rfl) ?_
              refine va_get (D := D) (ci := 0) (v := .ref c1) (C := RX0) (T := TX0) (N := 11) hx hb hts iX0 hown hK.1 hP 0 rfl rfl 1 (by decide) (hts (.fieldLink RX0 9 "CloseClocks$Clocks" "past" "[I") (by decide +kernel)) (fun _ h9 => h9) rfl dX0_move_91 ?_
              refine lv_iload_n hx hb dX0_move_94 rfl (lv_at hl 3 rfl) ?_
              refine lv_dup2_11 hx hb dX0_move_95 rfl rfl ?_
              refine kx_iald (k := v) hx hb hK hP 1 rfl (by omega) (by omega) (by decide) dX0_move_96 ?_
              refine lv_aload_n hx hb dX0_move_97 rfl (lv_at hl 0 rfl) ?_
              refine va_get (D := D) (ci := 0) (v := .ref c2) (C := RX0) (T := TX0) (N := 11) hx hb hts iX0 hown hK.1 hP 0 rfl rfl 2 (by decide) (hts (.fieldLink RX0 15 "CloseClocks$Clocks" "rates" "[I") (by decide +kernel)) (fun _ h9 => h9) rfl dX0_move_98 ?_
              refine lv_iload_n hx hb dX0_move_101 rfl (lv_at hl 3 rfl) ?_
              refine kx_iald (k := v) hx hb hK hP 2 rfl (by omega) (by omega) (by decide) dX0_move_102 ?_
              refine lv_aload_n hx hb dX0_move_103 rfl (lv_at hl 0 rfl) ?_
              refine va_get (D := D) (ci := 0) (v := .ref c3) (C := RX0) (T := TX0) (N := 11) hx hb hts iX0 hown hK.1 hP 0 rfl rfl 3 (by decide) (hts (.fieldLink RX0 18 "CloseClocks$Clocks" "fast" "[I") (by decide +kernel)) (fun _ h9 => h9) rfl dX0_move_104 ?_
              refine lv_iload_n hx hb dX0_move_107 rfl (lv_at hl 3 rfl) ?_
              refine kx_iald (k := v) hx hb hK hP 3 rfl (by omega) (by omega) (by decide) dX0_move_108 ?_
              refine lv_iload_n hx hb dX0_move_109 rfl (lv_at hl 2 rfl) ?_
              refine kx_imul hx hb dX0_move_110 ?_
              refine kx_iadd hx hb dX0_move_111 ?_
              refine kx_iadd hx hb dX0_move_112 ?_
              refine kx_iast (k := v) (x := ((gp v) + ((ra v) + (((xFa pa fa dy er dg nb no sp) v) * bq)))) hx hb hK hP hD hS 1 rfl (by omega) (by omega) (by decide) dX0_move_113 (fun H locs hP hD hS => ?_)
              have hP : va_P D vwCl (ckW cI cZ c c1 c2 c3 c4 c5 c6 n n1 n2 n3 (va_up gp v ((gp v) + ((ra v) + (((xFa pa fa dy er dg nb no sp) v) * bq)))) ra (xFa pa fa dy er dg nb no sp) ft dy er ti gr a1 b1 no li dg nb wy) H := hP
              have hD : va_D A (ckW cI cZ c c1 c2 c3 c4 c5 c6 n n1 n2 n3 (va_up gp v ((gp v) + ((ra v) + (((xFa pa fa dy er dg nb no sp) v) * bq)))) ra (xFa pa fa dy er dg nb no sp) ft dy er ti gr a1 b1 no li dg nb wy) := hD
              refine kx_iinc (z := ((v + 1 : Nat) : Int)) (lv' := [(3, .int (iI ((v + 1 : Nat) : Int))), (0, .ref c), (1, .int (iI sp)), (2, .int (iI bq))]) hx hb dX0_move_114 hl (k0 := 3) rfl (by omega) (by decide) rfl (fun ls hl => ?_)
              refine lv_goto (tgt := 79) hx hb dX0_move_117 (by decide) ?_
              exact ih79 (v + 1) (va_up gp v ((gp v) + ((ra v) + (((xFa pa fa dy er dg nb no sp) v) * bq)))) (by first | assumption | omega) (up_mix hgp (by show _ = pa v + (ra v + (xFa pa fa dy er dg nb no sp) v * bq); rw [mix_at hgp (by omega), if_pos (by omega)])) (by omega) H locs hP hD hS ls (lv_sub hl [1, 2, 3, 0] rfl)
        exact L79 (no.toNat - 0 + 1) 0 (va_cpy pa pa 0 6 18) (by first | assumption | omega) (fun k hk => by rw [if_neg (by omega)]; simp only [va_cpy]; (repeat' split) <;> first | rfl | omega | (congr 1; omega)) (Nat.lt_succ_self _) H locs hP hD hS ls (lv_sub hl [1, 2, 3, 0] rfl)
      · skip
        have hv6 : v < 6 := by omega
        have hrg := xA_rng (nb := nb) hpa hdy her hv6 (dg v).toNat (fun j hj => hnb v j hv6 (by have := hdg v hv6; omega))
        have hub := xUp_bd (ah := xAh pa dy er dg nb v) (be := xBe pa dy er dg nb v) hsp (by unfold xBe; omega)
        have hdb := xDn_bd (ah := xAh pa dy er dg nb v) (be := xBe pa dy er dg nb v) hsp (by unfold xAh; omega)
        refine lv_aload_n hx hb dX0_move_13 rfl (lv_at hl 0 rfl) ?_
        refine lv_iload_n hx hb dX0_move_14 rfl (lv_at hl 3 rfl) ?_
        refine kx_cVW (As := [.int (iI (v : Int))]) (rest := []) (wr := []) (q0 := 0) (ci := 0) ⟨hx, hb, hml, hown, hts⟩ (c_X0_compareGuesses l D cI cZ c c1 c2 c3 c4 c5 c6 n n1 n2 n3 pa ra gf ft dy er ti gr a1 b1 no li dg nb wy v (by first | assumption | omega) (by first | assumption | omega) (by first | assumption | omega) (by first | assumption | omega) (by first | assumption | omega) (by first | assumption | omega)) (cwV 1 hts gX0_move_X0_compareGuesses rfl rfl rfl (by decide +kernel) ⟨Nat.le_of_ble_eq_true rfl, Nat.le_of_ble_eq_true rfl⟩) hK hP hD hS hA [0, 1, 2, 3, 4, 5, 6, 7, 8, 9, 10] [] rfl rfl (by decide) (by decide) (by decide) rfl rfl rfl hl.1 rfl (Nat.le_of_ble_eq_true rfl) dX0_move_15 ⟨Nat.le_of_ble_eq_true rfl, Nat.le_of_ble_eq_true rfl⟩ (fun u H locs hq hP hD hS => ?_)
        have hP : va_P D vwCl (ckW cI cZ c c1 c2 c3 c4 c5 c6 n n1 n2 n3 pa ra gf ft dy er ti gr (xAh pa dy er dg nb v) (xBe pa dy er dg nb v) no li dg nb wy) H := hP.sub [0, 1, 2, 3, 4, 5, 6, 7, 8, 9, 10] rfl
        have hD : va_D A (ckW cI cZ c c1 c2 c3 c4 c5 c6 n n1 n2 n3 pa ra gf ft dy er ti gr (xAh pa dy er dg nb v) (xBe pa dy er dg nb v) no li dg nb wy) := hD.sub [0, 1, 2, 3, 4, 5, 6, 7, 8, 9, 10] (by decide) rfl
        refine W.eq (g2 := F0 mi 18 ls []) rfl ?_
        refine lv_aload_n hx hb dX0_move_18 rfl (lv_at hl 0 rfl) ?_
        refine lv_iload_n hx hb dX0_move_19 rfl (lv_at hl 1 rfl) ?_
        refine kx_cV (As := [.int (iI sp)]) (rest := []) (st1 := [.int (iI (xUp (xAh pa dy er dg nb v) (xBe pa dy er dg nb v) sp))]) (q0 := 0) (ci := 0) ⟨hx, hb, hml, hown, hts⟩ (c_X0_upLevel l D cI cZ c c1 c2 c3 c4 c5 c6 n n1 n2 n3 pa ra gf ft dy er ti gr (xAh pa dy er dg nb v) (xBe pa dy er dg nb v) no li dg nb wy sp (by first | assumption | omega) (hrg)) (cwV 1 hts gX0_move_X0_upLevel rfl rfl rfl (by decide +kernel) ⟨Nat.le_of_ble_eq_true rfl, Nat.le_of_ble_eq_true rfl⟩) hK hP rfl rfl rfl hl.1 rfl (Nat.le_of_ble_eq_true rfl) dX0_move_20 ⟨Nat.zero_le _, Nat.zero_le _⟩ rfl ?_
        refine kx_ldc (z := -100000001) hx hb hown (hts (.constant RX0 37 (-100000001)) (by decide +kernel)) dX0_move_23 (by decide) ?_
        refine kx_icmp_eq (tgt := 38) hx hb (by omega) (by omega) dX0_move_25 (by decide) (fun h25 => ?_) (fun h25 => ?_)
        · skip
          refine lv_aload_n hx hb dX0_move_38 rfl (lv_at hl 0 rfl) ?_
          refine lv_iload_n hx hb dX0_move_39 rfl (lv_at hl 1 rfl) ?_
          refine kx_cV (As := [.int (iI sp)]) (rest := []) (st1 := [.int (iI (xDn (xAh pa dy er dg nb v) (xBe pa dy er dg nb v) sp))]) (q0 := 0) (ci := 0) ⟨hx, hb, hml, hown, hts⟩ (c_X0_downLevel l D cI cZ c c1 c2 c3 c4 c5 c6 n n1 n2 n3 pa ra gf ft dy er ti gr (xAh pa dy er dg nb v) (xBe pa dy er dg nb v) no li dg nb wy sp (by first | assumption | omega) (hrg)) (cwV 1 hts gX0_move_X0_downLevel rfl rfl rfl (by decide +kernel) ⟨Nat.le_of_ble_eq_true rfl, Nat.le_of_ble_eq_true rfl⟩) hK hP rfl rfl rfl hl.1 rfl (Nat.le_of_ble_eq_true rfl) dX0_move_40 ⟨Nat.zero_le _, Nat.zero_le _⟩ rfl ?_
          refine kx_ldc (z := -100000001) hx hb hown (hts (.constant RX0 37 (-100000001)) (by decide +kernel)) dX0_move_43 (by decide) ?_
          refine kx_icmp_eq (tgt := 55) hx hb (by omega) (by omega) dX0_move_45 (by decide) (fun h45 => ?_) (fun h45 => ?_)
          · skip
            refine kx_iinc (z := ((v + 1 : Nat) : Int)) (lv' := [(3, .int (iI ((v + 1 : Nat) : Int))), (0, .ref c), (1, .int (iI sp)), (2, .int (iI bq))]) hx hb dX0_move_55 hl (k0 := 3) rfl (by omega) (by decide) rfl (fun ls hl => ?_)
            refine lv_goto (tgt := 2) hx hb dX0_move_58 (by decide) ?_
            exact ih2 (v + 1) gf (xAh pa dy er dg nb v) (xBe pa dy er dg nb v) (by first | assumption | omega) (by first | (exact up_mix hgf (by rw [xNF, if_pos h25])) | (exact up_mix hgf (by rw [xNF, if_neg (by omega), if_pos h45])) | (exact mix_skip hgf (by rw [xNF, if_neg (by omega), if_neg (by omega)]))) (by omega) H locs hP hD hS ls (lv_sub hl [1, 2, 3, 0] rfl)
          · skip
            refine lv_aload_n hx hb dX0_move_48 rfl (lv_at hl 0 rfl) ?_
            refine va_get (D := D) (ci := 0) (v := .ref c3) (C := RX0) (T := TX0) (N := 11) hx hb hts iX0 hown hK.1 hP 0 rfl rfl 3 (by decide) (hts (.fieldLink RX0 18 "CloseClocks$Clocks" "fast" "[I") (by decide +kernel)) (fun _ h9 => h9) rfl dX0_move_49 ?_
            refine lv_iload_n hx hb dX0_move_52 rfl (lv_at hl 3 rfl) ?_
            refine kx_const (z := 0) hx hb dX0_move_53 rfl ?_
            refine kx_iast (k := v) (x := 0) hx hb hK hP hD hS 3 rfl (by omega) (by omega) (by decide) dX0_move_54 (fun H locs hP hD hS => ?_)
            have hP : va_P D vwCl (ckW cI cZ c c1 c2 c3 c4 c5 c6 n n1 n2 n3 pa ra (va_up gf v 0) ft dy er ti gr (xAh pa dy er dg nb v) (xBe pa dy er dg nb v) no li dg nb wy) H := hP
            have hD : va_D A (ckW cI cZ c c1 c2 c3 c4 c5 c6 n n1 n2 n3 pa ra (va_up gf v 0) ft dy er ti gr (xAh pa dy er dg nb v) (xBe pa dy er dg nb v) no li dg nb wy) := hD
            refine kx_iinc (z := ((v + 1 : Nat) : Int)) (lv' := [(3, .int (iI ((v + 1 : Nat) : Int))), (0, .ref c), (1, .int (iI sp)), (2, .int (iI bq))]) hx hb dX0_move_55 hl (k0 := 3) rfl (by omega) (by decide) rfl (fun ls hl => ?_)
            refine lv_goto (tgt := 2) hx hb dX0_move_58 (by decide) ?_
            exact ih2 (v + 1) (va_up gf v 0) (xAh pa dy er dg nb v) (xBe pa dy er dg nb v) (by first | assumption | omega) (by first | (exact up_mix hgf (by rw [xNF, if_pos h25])) | (exact up_mix hgf (by rw [xNF, if_neg (by omega), if_pos h45])) | (exact mix_skip hgf (by rw [xNF, if_neg (by omega), if_neg (by omega)]))) (by omega) H locs hP hD hS ls (lv_sub hl [1, 2, 3, 0] rfl)
        · skip
          refine lv_aload_n hx hb dX0_move_28 rfl (lv_at hl 0 rfl) ?_
          refine va_get (D := D) (ci := 0) (v := .ref c3) (C := RX0) (T := TX0) (N := 11) hx hb hts iX0 hown hK.1 hP 0 rfl rfl 3 (by decide) (hts (.fieldLink RX0 18 "CloseClocks$Clocks" "fast" "[I") (by decide +kernel)) (fun _ h9 => h9) rfl dX0_move_29 ?_
          refine lv_iload_n hx hb dX0_move_32 rfl (lv_at hl 3 rfl) ?_
          refine kx_const (z := 1) hx hb dX0_move_33 rfl ?_
          refine kx_iast (k := v) (x := 1) hx hb hK hP hD hS 3 rfl (by omega) (by omega) (by decide) dX0_move_34 (fun H locs hP hD hS => ?_)
          have hP : va_P D vwCl (ckW cI cZ c c1 c2 c3 c4 c5 c6 n n1 n2 n3 pa ra (va_up gf v 1) ft dy er ti gr (xAh pa dy er dg nb v) (xBe pa dy er dg nb v) no li dg nb wy) H := hP
          have hD : va_D A (ckW cI cZ c c1 c2 c3 c4 c5 c6 n n1 n2 n3 pa ra (va_up gf v 1) ft dy er ti gr (xAh pa dy er dg nb v) (xBe pa dy er dg nb v) no li dg nb wy) := hD
          refine lv_goto (tgt := 55) hx hb dX0_move_35 (by decide) ?_
          refine kx_iinc (z := ((v + 1 : Nat) : Int)) (lv' := [(3, .int (iI ((v + 1 : Nat) : Int))), (0, .ref c), (1, .int (iI sp)), (2, .int (iI bq))]) hx hb dX0_move_55 hl (k0 := 3) rfl (by omega) (by decide) rfl (fun ls hl => ?_)
          refine lv_goto (tgt := 2) hx hb dX0_move_58 (by decide) ?_
          exact ih2 (v + 1) (va_up gf v 1) (xAh pa dy er dg nb v) (xBe pa dy er dg nb v) (by first | assumption | omega) (by first | (exact up_mix hgf (by rw [xNF, if_pos h25])) | (exact up_mix hgf (by rw [xNF, if_neg (by omega), if_pos h45])) | (exact mix_skip hgf (by rw [xNF, if_neg (by omega), if_neg (by omega)]))) (by omega) H locs hP hD hS ls (lv_sub hl [1, 2, 3, 0] rfl)
  exact L2 (no.toNat - 0 + 1) 0 fa ah be (by first | assumption | omega) (mix_0) (Nat.lt_succ_self _) H locs hP hD hS ls (lv_sub hl [1, 2, 3, 0] rfl)
