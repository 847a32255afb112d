def rm_X1_addNeighbour : Room := ({ frames := 1, cells := 0, slots := 0, locals := 21 } : Room)
set_option maxHeartbeats 4000000 in
set_option maxRecDepth 100000 in
theorem c_X1_addNeighbour (l : Launch) (D : va_G) (cI cZ : ClassId) (n n1 n2 n3 : Nat) (no li : Int) (dg nb wy : Nat → Int) (i j : Nat) (hi : i < 6) (hj : j < 6) (hd : 0 ≤ dg i ∧ dg i ≤ 5) : kWR l yX1_addNeighbour wsX1_addNeighbour rm_X1_addNeighbour D cI cZ [.ref n, .int (iI (i : Int)), .int (iI (j : Int))] (ntW cI cZ n n1 n2 n3 no li dg nb wy) (fun u : Unit => none) (fun u : Unit => True) (fun u : Unit => ntW cI cZ n n1 n2 n3 no li (aNd dg i) (aNn dg nb i j) (aNw wy i j)) 0 0 := by
  refine kx_WRv (cc := cX1_addNeighbour) (maxL := 3) (by decide) rfl (Nat.le_of_ble_eq_true rfl) ?_
  intro pr en s mi args below meth co Q A hx hb hml hown hts hK hin hA hP hD hS hret ls hl
  have hown : s.vm.findClass RX1 = some mi.cls := hown
  have iX1 : ∀ w ∈ wsX10, w ∈ wsX1_addNeighbour := by decide +kernel
  have hl : lv_has ls 3 [(0, .ref n), (1, .int (iI (i : Int))), (2, .int (iI (j : Int)))] := hl
  generalize hH0 : s.heap = H0 at hA hP hS hret ⊢
  obtain ⟨H, hH⟩ : ∃ H : Heap, H = H0 := ⟨_, rfl⟩
  obtain ⟨locs, hlocs⟩ : ∃ locs : List Loc, locs = [] := ⟨_, rfl⟩
  have hS : va_S A H0 H locs := by rw [hH, hlocs]; exact hS
  have hP : va_P D vwCl (ntW cI cZ n n1 n2 n3 no li dg nb wy) H := by rw [hH]; exact hP
  suffices hgo : W pr l en rm_X1_addNeighbour s mi args below meth co H locs 0 0 Q (F0 mi 0 ls []) by rw [hH, hlocs] at hgo; exact hgo
  clear hH hlocs
  refine lv_aload_n hx hb dX1_addNeighbour_0 rfl (lv_at hl 0 rfl) ?_
  refine va_get (D := D) (ci := 1) (v := .ref n1) (C := RX1) (T := TX1) (N := 5) hx hb hts iX1 hown hK.1 hP 0 rfl rfl 0 (by decide) (hts (.fieldLink RX1 9 "CloseClocks$Net" "degrees" "[I") (by decide +kernel)) (fun _ h9 => h9) rfl dX1_addNeighbour_1 ?_
  refine lv_iload_n hx hb dX1_addNeighbour_4 rfl (lv_at hl 1 rfl) ?_
  refine kx_iald (k := i) hx hb hK hP 1 rfl (by omega) (by omega) (by decide) dX1_addNeighbour_5 ?_
  refine kx_bipush (z := 6) hx hb dX1_addNeighbour_6 (by decide) ?_
  refine kx_icmp_ge (tgt := 48) hx hb (by omega) (by omega) dX1_addNeighbour_8 (by decide) (fun h8 => ?_) (fun h8 => ?_)
  · skip
    exfalso; omega
  · skip
    refine lv_aload_n hx hb dX1_addNeighbour_11 rfl (lv_at hl 0 rfl) ?_
    refine va_get (D := D) (ci := 1) (v := .ref n2) (C := RX1) (T := TX1) (N := 5) hx hb hts iX1 hown hK.1 hP 0 rfl rfl 1 (by decide) (hts (.fieldLink RX1 15 "CloseClocks$Net" "neighbours" "[I") (by decide +kernel)) (fun _ h9 => h9) rfl dX1_addNeighbour_12 ?_
    refine lv_iload_n hx hb dX1_addNeighbour_15 rfl (lv_at hl 1 rfl) ?_
    refine lv_aload_n hx hb dX1_addNeighbour_16 rfl (lv_at hl 0 rfl) ?_
    refine va_get (D := D) (ci := 1) (v := .ref n1) (C := RX1) (T := TX1) (N := 5) hx hb hts iX1 hown hK.1 hP 0 rfl rfl 0 (by decide) (hts (.fieldLink RX1 9 "CloseClocks$Net" "degrees" "[I") (by decide +kernel)) (fun _ h9 => h9) rfl dX1_addNeighbour_17 ?_
    refine lv_iload_n hx hb dX1_addNeighbour_20 rfl (lv_at hl 1 rfl) ?_
    refine kx_iald (k := i) hx hb hK hP 1 rfl (by omega) (by omega) (by decide) dX1_addNeighbour_21 ?_
    refine kx_cSN (As := [.int (iI (i : Int)), .int (iI (dg i))]) (rest := [.ref n2]) (st1 := [.int (iI (((i : Int) * 6) + (dg i))), .ref n2]) ⟨hx, hb, hml, hown, hts⟩ (c_X3_cell l D cI cZ (i : Int) (dg i) ) ⟨va_cnB 2 hts gX1_addNeighbour_X3_cell_n32 rfl rfl rfl (hK.2.2 (RX1, 32, yX3_cell) (List.mem_of_getElem? (i := 2) rfl)) (hts (.initialized RX3) (by decide +kernel)) (by decide +kernel) ⟨Nat.le_of_ble_eq_true rfl, Nat.le_of_ble_eq_true rfl⟩, hts (.static yX3_cell) (by decide +kernel), trivial⟩ hK (hP.sub (ws' := []) [] rfl) rfl hl.1 rfl (Nat.le_of_ble_eq_true rfl) dX1_addNeighbour_22 ⟨Nat.zero_le _, Nat.zero_le _⟩ rfl ?_
    refine lv_iload_n hx hb dX1_addNeighbour_25 rfl (lv_at hl 2 rfl) ?_
    refine kx_iast (k := (i * 6 + (dg i).toNat)) (x := (j : Int)) hx hb hK hP hD hS 2 rfl (by omega) (by omega) (by decide) dX1_addNeighbour_26 (fun H locs hP hD hS => ?_)
    have hP : va_P D vwCl (ntW cI cZ n n1 n2 n3 no li dg (va_up nb (i * 6 + (dg i).toNat) (j : Int)) wy) H := hP
    have hD : va_D A (ntW cI cZ n n1 n2 n3 no li dg (va_up nb (i * 6 + (dg i).toNat) (j : Int)) wy) := hD
    refine lv_aload_n hx hb dX1_addNeighbour_27 rfl (lv_at hl 0 rfl) ?_
    refine va_get (D := D) (ci := 1) (v := .ref n1) (C := RX1) (T := TX1) (N := 5) hx hb hts iX1 hown hK.1 hP 0 rfl rfl 0 (by decide) (hts (.fieldLink RX1 9 "CloseClocks$Net" "degrees" "[I") (by decide +kernel)) (fun _ h9 => h9) rfl dX1_addNeighbour_28 ?_
    refine lv_iload_n hx hb dX1_addNeighbour_31 rfl (lv_at hl 1 rfl) ?_
    refine lv_dup2_11 hx hb dX1_addNeighbour_32 rfl rfl ?_
    refine kx_iald (k := i) hx hb hK hP 1 rfl (by omega) (by omega) (by decide) dX1_addNeighbour_33 ?_
    refine kx_const (z := 1) hx hb dX1_addNeighbour_34 rfl ?_
    refine kx_iadd hx hb dX1_addNeighbour_35 ?_
    refine kx_iast (k := i) (x := ((dg i) + 1)) hx hb hK hP hD hS 1 rfl (by omega) (by omega) (by decide) dX1_addNeighbour_36 (fun H locs hP hD hS => ?_)
    have hP : va_P D vwCl (ntW cI cZ n n1 n2 n3 no li (va_up dg i ((dg i) + 1)) (va_up nb (i * 6 + (dg i).toNat) (j : Int)) wy) H := hP
    have hD : va_D A (ntW cI cZ n n1 n2 n3 no li (va_up dg i ((dg i) + 1)) (va_up nb (i * 6 + (dg i).toNat) (j : Int)) wy) := hD
    refine lv_aload_n hx hb dX1_addNeighbour_37 rfl (lv_at hl 0 rfl) ?_
    refine va_get (D := D) (ci := 1) (v := .ref n3) (C := RX1) (T := TX1) (N := 5) hx hb hts iX1 hown hK.1 hP 0 rfl rfl 2 (by decide) (hts (.fieldLink RX1 18 "CloseClocks$Net" "ways" "[I") (by decide +kernel)) (fun _ h9 => h9) rfl dX1_addNeighbour_38 ?_
    refine lv_iload_n hx hb dX1_addNeighbour_41 rfl (lv_at hl 1 rfl) ?_
    refine lv_iload_n hx hb dX1_addNeighbour_42 rfl (lv_at hl 2 rfl) ?_
    refine kx_cSN (As := [.int (iI (i : Int)), .int (iI (j : Int))]) (rest := [.ref n3]) (st1 := [.int (iI (((i : Int) * 6) + (j : Int))), .ref n3]) ⟨hx, hb, hml, hown, hts⟩ (c_X3_cell l D cI cZ (i : Int) (j : Int) ) ⟨va_cnB 2 hts gX1_addNeighbour_X3_cell_n32 rfl rfl rfl (hK.2.2 (RX1, 32, yX3_cell) (List.mem_of_getElem? (i := 2) rfl)) (hts (.initialized RX3) (by decide +kernel)) (by decide +kernel) ⟨Nat.le_of_ble_eq_true rfl, Nat.le_of_ble_eq_true rfl⟩, hts (.static yX3_cell) (by decide +kernel), trivial⟩ hK (hP.sub (ws' := []) [] rfl) rfl hl.1 rfl (Nat.le_of_ble_eq_true rfl) dX1_addNeighbour_43 ⟨Nat.zero_le _, Nat.zero_le _⟩ rfl ?_
    refine kx_const (z := 1) hx hb dX1_addNeighbour_46 rfl ?_
    refine kx_iast (k := ((i * 6) + j)) (x := 1) hx hb hK hP hD hS 3 rfl (by omega) (by omega) (by decide) dX1_addNeighbour_47 (fun H locs hP hD hS => ?_)
    have hP : va_P D vwCl (ntW cI cZ n n1 n2 n3 no li (va_up dg i ((dg i) + 1)) (va_up nb (i * 6 + (dg i).toNat) (j : Int)) (va_up wy ((i * 6) + j) 1)) H := hP
    have hD : va_D A (ntW cI cZ n n1 n2 n3 no li (va_up dg i ((dg i) + 1)) (va_up nb (i * 6 + (dg i).toNat) (j : Int)) (va_up wy ((i * 6) + j) 1)) := hD
    exact hret () H locs _ _ (trivial) hP hD hS dX1_addNeighbour_48
def rm_X1_join : Room := ({ frames := 2, cells := 0, slots := 0, locals := 43 } : Room)
set_option maxHeartbeats 4000000 in
set_option maxRecDepth 100000 in
theorem c_X1_join (l : Launch) (D : va_G) (cI cZ : ClassId) (n n1 n2 n3 : Nat) (no li : Int) (dg nb wy : Nat → Int) (i j : Nat) (hno : 0 ≤ no ∧ no ≤ 6) (hi : (i : Int) < no) (hj : (j : Int) < no) (hij : i ≠ j) (hd : 0 ≤ dg i ∧ dg i ≤ 5) (hd2 : 0 ≤ dg j ∧ dg j ≤ 5) : kWR l yX1_join wsX1_join rm_X1_join D cI cZ [.ref n, .int (iI (i : Int)), .int (iI (j : Int))] (ntW cI cZ n n1 n2 n3 no li dg nb wy) (fun u : Unit => none) (fun u : Unit => True) (fun u : Unit => ntW cI cZ n n1 n2 n3 no li (aNd (aNd dg i) j) (aNn (aNd dg i) (aNn dg nb i j) j i) (aNw (aNw wy i j) j i)) 0 0 := by
  refine kx_WRv (cc := cX1_join) (maxL := 3) (by decide) rfl (Nat.le_of_ble_eq_true rfl) ?_
  intro pr en s mi args below meth co Q A hx hb hml hown hts hK hin hA hP hD hS hret ls hl
  have hown : s.vm.findClass RX1 = some mi.cls := hown
  have hl : lv_has ls 3 [(0, .ref n), (1, .int (iI (i : Int))), (2, .int (iI (j : Int)))] := hl
  generalize hH0 : s.heap = H0 at hA hP hS hret ⊢
  obtain ⟨H, hH⟩ : ∃ H : Heap, H = H0 := ⟨_, rfl⟩
  obtain ⟨locs, hlocs⟩ : ∃ locs : List Loc, locs = [] := ⟨_, rfl⟩
  have hS : va_S A H0 H locs := by rw [hH, hlocs]; exact hS
  have hP : va_P D vwCl (ntW cI cZ n n1 n2 n3 no li dg nb wy) H := by rw [hH]; exact hP
  suffices hgo : W pr l en rm_X1_join s mi args below meth co H locs 0 0 Q (F0 mi 0 ls []) by rw [hH, hlocs] at hgo; exact hgo
  clear hH hlocs
  refine lv_aload_n hx hb dX1_join_0 rfl (lv_at hl 0 rfl) ?_
  refine lv_iload_n hx hb dX1_join_1 rfl (lv_at hl 1 rfl) ?_
  refine kx_cV (As := [.int (iI (i : Int))]) (rest := []) (st1 := [.int (iI (if (0 ≤ (i : Int) ∧ (i : Int) < no) then 1 else 0))]) (q0 := 0) (ci := 1) ⟨hx, hb, hml, hown, hts⟩ (c_X1_hasNode l D cI cZ n n1 n2 n3 no li dg nb wy (i : Int) (by first | assumption | omega) (by first | assumption | omega)) (cwV 1 hts gX1_join_X1_hasNode rfl rfl rfl (by decide +kernel) ⟨Nat.le_of_ble_eq_true rfl, Nat.le_of_ble_eq_true rfl⟩) hK hP rfl rfl rfl hl.1 rfl (Nat.le_of_ble_eq_true rfl) dX1_join_2 ⟨Nat.zero_le _, Nat.zero_le _⟩ rfl ?_
  refine kx_if_eqB (tgt := 28) hx hb dX1_join_5 (by decide) (fun h5 => ?_) (fun h5 => ?_)
  · skip
    exfalso; omega
  · skip
    refine lv_aload_n hx hb dX1_join_8 rfl (lv_at hl 0 rfl) ?_
    refine lv_iload_n hx hb dX1_join_9 rfl (lv_at hl 2 rfl) ?_
    refine kx_cV (As := [.int (iI (j : Int))]) (rest := []) (st1 := [.int (iI (if (0 ≤ (j : Int) ∧ (j : Int) < no) then 1 else 0))]) (q0 := 0) (ci := 1) ⟨hx, hb, hml, hown, hts⟩ (c_X1_hasNode l D cI cZ n n1 n2 n3 no li dg nb wy (j : Int) (by first | assumption | omega) (by first | assumption | omega)) (cwV 1 hts gX1_join_X1_hasNode rfl rfl rfl (by decide +kernel) ⟨Nat.le_of_ble_eq_true rfl, Nat.le_of_ble_eq_true rfl⟩) hK hP rfl rfl rfl hl.1 rfl (Nat.le_of_ble_eq_true rfl) dX1_join_10 ⟨Nat.zero_le _, Nat.zero_le _⟩ rfl ?_
    refine kx_if_eqB (tgt := 28) hx hb dX1_join_13 (by decide) (fun h13 => ?_) (fun h13 => ?_)
    · skip
      exfalso; omega
    · skip
      refine lv_aload_n hx hb dX1_join_16 rfl (lv_at hl 0 rfl) ?_
      refine lv_iload_n hx hb dX1_join_17 rfl (lv_at hl 1 rfl) ?_
      refine lv_iload_n hx hb dX1_join_18 rfl (lv_at hl 2 rfl) ?_
      refine kx_cVW (As := [.int (iI (i : Int)), .int (iI (j : Int))]) (rest := []) (wr := []) (q0 := 0) (ci := 1) ⟨hx, hb, hml, hown, hts⟩ (c_X1_addNeighbour l D cI cZ n n1 n2 n3 no li dg nb wy i j (by first | assumption | omega) (by first | assumption | omega) (by first | assumption | omega)) (cwV 2 hts gX1_join_X1_addNeighbour rfl rfl rfl (by decide +kernel) ⟨Nat.le_of_ble_eq_true rfl, Nat.le_of_ble_eq_true rfl⟩) hK hP hD hS hA [0, 1, 2, 3] [] rfl rfl (by decide) (by decide) (by decide) rfl rfl rfl hl.1 rfl (Nat.le_of_ble_eq_true rfl) dX1_join_19 ⟨Nat.le_of_ble_eq_true rfl, Nat.le_of_ble_eq_true rfl⟩ (fun u H locs hq hP hD hS => ?_)
      have hP : va_P D vwCl (ntW cI cZ n n1 n2 n3 no li (aNd dg i) (aNn dg nb i j) (aNw wy i j)) H := hP.sub [0, 1, 2, 3] rfl
      have hD : va_D A (ntW cI cZ n n1 n2 n3 no li (aNd dg i) (aNn dg nb i j) (aNw wy i j)) := hD.sub [0, 1, 2, 3] (by decide) rfl
      refine W.eq (g2 := F0 mi 22 ls []) rfl ?_
      refine lv_aload_n hx hb dX1_join_22 rfl (lv_at hl 0 rfl) ?_
      refine lv_iload_n hx hb dX1_join_23 rfl (lv_at hl 2 rfl) ?_
      refine lv_iload_n hx hb dX1_join_24 rfl (lv_at hl 1 rfl) ?_
      refine kx_cVW (As := [.int (iI (j : Int)), .int (iI (i : Int))]) (rest := []) (wr := []) (q0 := 0) (ci := 1) ⟨hx, hb, hml, hown, hts⟩ (c_X1_addNeighbour l D cI cZ n n1 n2 n3 no li (aNd dg i) (aNn dg nb i j) (aNw wy i j) j i (by first | assumption | omega) (by first | assumption | omega) (by unfold aNd; rw [up_n _ _ _ (fun q => hij q.symm)]; exact hd2)) (cwV 2 hts gX1_join_X1_addNeighbour rfl rfl rfl (by decide +kernel) ⟨Nat.le_of_ble_eq_true rfl, Nat.le_of_ble_eq_true rfl⟩) hK hP hD hS hA [0, 1, 2, 3] [] rfl rfl (by decide) (by decide) (by decide) rfl rfl rfl hl.1 rfl (Nat.le_of_ble_eq_true rfl) dX1_join_25 ⟨Nat.le_of_ble_eq_true rfl, Nat.le_of_ble_eq_true rfl⟩ (fun u H locs hq hP hD hS => ?_)
      have hP : va_P D vwCl (ntW cI cZ n n1 n2 n3 no li (aNd (aNd dg i) j) (aNn (aNd dg i) (aNn dg nb i j) j i) (aNw (aNw wy i j) j i)) H := hP.sub [0, 1, 2, 3] rfl
      have hD : va_D A (ntW cI cZ n n1 n2 n3 no li (aNd (aNd dg i) j) (aNn (aNd dg i) (aNn dg nb i j) j i) (aNw (aNw wy i j) j i)) := hD.sub [0, 1, 2, 3] (by decide) rfl
      refine W.eq (g2 := F0 mi 28 ls []) rfl ?_
      exact hret () H locs _ _ (trivial) hP hD hS dX1_join_28
def rm_X1_shortenWays : Room := ({ frames := 1, cells := 0, slots := 0, locals := 21 } : Room)
set_option maxHeartbeats 4000000 in
set_option maxRecDepth 100000 in
theorem c_X1_shortenWays (l : Launch) (D : va_G) (cI cZ : ClassId) (n n1 n2 n3 : Nat) (no li : Int) (dg nb wy : Nat → Int)  (hno : 0 ≤ no ∧ no ≤ 6) (hwo : wOK wy) : kWR l yX1_shortenWays wsX1_shortenWays rm_X1_shortenWays D cI cZ [.ref n] (ntW cI cZ n n1 n2 n3 no li dg nb wy) (fun u : Unit => none) (fun u : Unit => True) (fun u : Unit => ntW cI cZ n n1 n2 n3 no li dg nb (fwO wy no.toNat no.toNat)) 0 0 := by
  refine kx_WRv (cc := cX1_shortenWays) (maxL := 5) (by decide) rfl (Nat.le_of_ble_eq_true rfl) ?_
  intro pr en s mi args below meth co Q A hx hb hml hown hts hK hin hA hP hD hS hret ls hl
  have hown : s.vm.findClass RX1 = some mi.cls := hown
  have iX1 : ∀ w ∈ wsX10, w ∈ wsX1_shortenWays := by decide +kernel
  have hl : lv_has ls 5 [(0, .ref n)] := hl
  generalize hH0 : s.heap = H0 at hA hP hS hret ⊢
  obtain ⟨H, hH⟩ : ∃ H : Heap, H = H0 := ⟨_, rfl⟩
  obtain ⟨locs, hlocs⟩ : ∃ locs : List Loc, locs = [] := ⟨_, rfl⟩
  have hS : va_S A H0 H locs := by rw [hH, hlocs]; exact hS
  have hP : va_P D vwCl (ntW cI cZ n n1 n2 n3 no li dg nb wy) H := by rw [hH]; exact hP
  suffices hgo : W pr l en rm_X1_shortenWays s mi args below meth co H locs 0 0 Q (F0 mi 0 ls []) by rw [hH, hlocs] at hgo; exact hgo
  clear hH hlocs
  refine kx_const (z := 0) hx hb dX1_shortenWays_0 rfl ?_
  refine lv_istore_n (lv' := [(1, .int (iI 0)), (0, .ref n)]) hx hb dX1_shortenWays_1 rfl hl (by decide) rfl (fun ls hl => ?_)
  have L2 : ∀ (fu : Nat) (o : Nat), ((o : Int) ≤ no) → no.toNat - o < fu → ∀ (H : Heap) (locs : List Loc), va_P D vwCl (ntW cI cZ n n1 n2 n3 no li dg nb (fwO wy no.toNat o)) H → va_D A (ntW cI cZ n n1 n2 n3 no li dg nb (fwO wy no.toNat o)) → va_S A H0 H locs → ∀ ls : Array Slot, lv_has ls 5 [(0, .ref n), (1, .int (iI (o : Int)))] → W pr l en rm_X1_shortenWays s mi args below meth co H locs 0 0 Q (F0 mi 2 ls []) := by
    intro fu
    induction fu with
    | zero =>
      intro o ho hfu
      exact absurd hfu (Nat.not_lt_zero _)
    | succ fu ih2 =>
      intro o ho hfu H locs hP hD hS ls hl
      refine lv_iload_n hx hb dX1_shortenWays_2 rfl (lv_at hl 1 rfl) ?_
      refine lv_aload_n hx hb dX1_shortenWays_3 rfl (lv_at hl 0 rfl) ?_
      refine va_get (D := D) (ci := 1) (v := .int (iI no)) (C := RX1) (T := TX1) (N := 5) hx hb hts iX1 hown hK.1 hP 0 rfl rfl 3 (by decide) (hts (.fieldLink RX1 21 "CloseClocks$Net" "nodes" "I") (by decide +kernel)) (fun _ h9 => h9) rfl dX1_shortenWays_4 ?_
      refine kx_icmp_ge (tgt := 96) hx hb (by omega) (by omega) dX1_shortenWays_7 (by decide) (fun h7 => ?_) (fun h7 => ?_)
      · skip
        have hoe : o = no.toNat := by omega
        rw [hoe] at hP hD
        have hP : va_P D vwCl (ntW cI cZ n n1 n2 n3 no li dg nb (fwO wy no.toNat no.toNat)) H := hP
        have hD : va_D A (ntW cI cZ n n1 n2 n3 no li dg nb (fwO wy no.toNat no.toNat)) := hD
        exact hret () H locs _ _ (trivial) hP hD hS dX1_shortenWays_96
      · skip
        refine kx_const (z := 0) hx hb dX1_shortenWays_10 rfl ?_
        refine lv_istore_n (lv' := [(2, .int (iI 0)), (0, .ref n), (1, .int (iI (o : Int)))]) hx hb dX1_shortenWays_11 rfl hl (by decide) rfl (fun ls hl => ?_)
        have L12 : ∀ (fu : Nat) (v : Nat), ((v : Int) ≤ no) → no.toNat - v < fu → ∀ (H : Heap) (locs : List Loc), va_P D vwCl (ntW cI cZ n n1 n2 n3 no li dg nb (fwV (fwO wy no.toNat o) o no.toNat v)) H → va_D A (ntW cI cZ n n1 n2 n3 no li dg nb (fwV (fwO wy no.toNat o) o no.toNat v)) → va_S A H0 H locs → ∀ ls : Array Slot, lv_has ls 5 [(0, .ref n), (1, .int (iI (o : Int))), (2, .int (iI (v : Int)))] → W pr l en rm_X1_shortenWays s mi args below meth co H locs 0 0 Q (F0 mi 12 ls []) := by
          intro fu
          induction fu with
          | zero =>
            intro v hv hfu
            exact absurd hfu (Nat.not_lt_zero _)
          | succ fu ih12 =>
            intro v hv hfu H locs hP hD hS ls hl
            refine lv_iload_n hx hb dX1_shortenWays_12 rfl (lv_at hl 2 rfl) ?_
            refine lv_aload_n hx hb dX1_shortenWays_13 rfl (lv_at hl 0 rfl) ?_
            refine va_get (D := D) (ci := 1) (v := .int (iI no)) (C := RX1) (T := TX1) (N := 5) hx hb hts iX1 hown hK.1 hP 0 rfl rfl 3 (by decide) (hts (.fieldLink RX1 21 "CloseClocks$Net" "nodes" "I") (by decide +kernel)) (fun _ h9 => h9) rfl dX1_shortenWays_14 ?_
            refine kx_icmp_ge (tgt := 90) hx hb (by omega) (by omega) dX1_shortenWays_17 (by decide) (fun h17 => ?_) (fun h17 => ?_)
            · skip
              have hve : v = no.toNat := by omega
              rw [hve] at hP hD
              have hP : va_P D vwCl (ntW cI cZ n n1 n2 n3 no li dg nb (fwO wy no.toNat (o + 1))) H := hP
              have hD : va_D A (ntW cI cZ n n1 n2 n3 no li dg nb (fwO wy no.toNat (o + 1))) := hD
              refine kx_iinc (z := ((o + 1 : Nat) : Int)) (lv' := [(1, .int (iI ((o + 1 : Nat) : Int))), (0, .ref n), (2, .int (iI (v : Int)))]) hx hb dX1_shortenWays_90 hl (k0 := 1) rfl (by omega) (by decide) rfl (fun ls hl => ?_)
              refine lv_goto (tgt := 2) hx hb dX1_shortenWays_93 (by decide) ?_
              exact ih2 (o + 1) (by first | assumption | omega) (by omega) H locs hP hD hS ls (lv_sub hl [1, 0] rfl)
            · skip
              refine kx_const (z := 0) hx hb dX1_shortenWays_20 rfl ?_
              refine lv_istore_n (lv' := [(3, .int (iI 0)), (0, .ref n), (1, .int (iI (o : Int))), (2, .int (iI (v : Int)))]) hx hb dX1_shortenWays_21 rfl hl (by decide) rfl (fun ls hl => ?_)
              have L22 : ∀ (fu : Nat) (w : Nat), ((w : Int) ≤ no) → no.toNat - w < fu → ∀ (H : Heap) (locs : List Loc), va_P D vwCl (ntW cI cZ n n1 n2 n3 no li dg nb (fwI (fwV (fwO wy no.toNat o) o no.toNat v) o v w)) H → va_D A (ntW cI cZ n n1 n2 n3 no li dg nb (fwI (fwV (fwO wy no.toNat o) o no.toNat v) o v w)) → va_S A H0 H locs → ∀ ls : Array Slot, lv_has ls 5 [(0, .ref n), (1, .int (iI (o : Int))), (2, .int (iI (v : Int))), (3, .int (iI (w : Int)))] → W pr l en rm_X1_shortenWays s mi args below meth co H locs 0 0 Q (F0 mi 22 ls []) := by
                intro fu
                induction fu with
                | zero =>
                  intro w hw hfu
                  exact absurd hfu (Nat.not_lt_zero _)
                | succ fu ih22 =>
                  intro w hw hfu H locs hP hD hS ls hl
                  have hok : wOK (fwI (fwV (fwO wy no.toNat o) o no.toNat v) o v w) := fwI_ok (fwV_ok (fwO_ok hwo (by omega) o (by omega)) (by omega) (by omega) v (by omega)) (by omega) (by omega) w (by omega)
                  refine lv_iload_n hx hb dX1_shortenWays_22 rfl (lv_at hl 3 rfl) ?_
                  refine lv_aload_n hx hb dX1_shortenWays_23 rfl (lv_at hl 0 rfl) ?_
                  refine va_get (D := D) (ci := 1) (v := .int (iI no)) (C := RX1) (T := TX1) (N := 5) hx hb hts iX1 hown hK.1 hP 0 rfl rfl 3 (by decide) (hts (.fieldLink RX1 21 "CloseClocks$Net" "nodes" "I") (by decide +kernel)) (fun _ h9 => h9) rfl dX1_shortenWays_24 ?_
                  refine kx_icmp_ge (tgt := 84) hx hb (by omega) (by omega) dX1_shortenWays_27 (by decide) (fun h27 => ?_) (fun h27 => ?_)
                  · skip
                    have hwe : w = no.toNat := by omega
                    rw [hwe] at hP hD
                    have hP : va_P D vwCl (ntW cI cZ n n1 n2 n3 no li dg nb (fwV (fwO wy no.toNat o) o no.toNat (v + 1))) H := hP
                    have hD : va_D A (ntW cI cZ n n1 n2 n3 no li dg nb (fwV (fwO wy no.toNat o) o no.toNat (v + 1))) := hD
                    refine kx_iinc (z := ((v + 1 : Nat) : Int)) (lv' := [(2, .int (iI ((v + 1 : Nat) : Int))), (0, .ref n), (1, .int (iI (o : Int))), (3, .int (iI (w : Int)))]) hx hb dX1_shortenWays_84 hl (k0 := 2) rfl (by omega) (by decide) rfl (fun ls hl => ?_)
                    refine lv_goto (tgt := 12) hx hb dX1_shortenWays_87 (by decide) ?_
                    exact ih12 (v + 1) (by first | assumption | omega) (by omega) H locs hP hD hS ls (lv_sub hl [1, 2, 0] rfl)
                  · skip
                    refine lv_aload_n hx hb dX1_shortenWays_30 rfl (lv_at hl 0 rfl) ?_
                    refine va_get (D := D) (ci := 1) (v := .ref n3) (C := RX1) (T := TX1) (N := 5) hx hb hts iX1 hown hK.1 hP 0 rfl rfl 2 (by decide) (hts (.fieldLink RX1 18 "CloseClocks$Net" "ways" "[I") (by decide +kernel)) (fun _ h9 => h9) rfl dX1_shortenWays_31 ?_
                    refine lv_iload_n hx hb dX1_shortenWays_34 rfl (lv_at hl 2 rfl) ?_
                    refine lv_iload_n hx hb dX1_shortenWays_35 rfl (lv_at hl 1 rfl) ?_
                    refine kx_cSN (As := [.int (iI (v : Int)), .int (iI (o : Int))]) (rest := [.ref n3]) (st1 := [.int (iI (((v : Int) * 6) + (o : Int))), .ref n3]) ⟨hx, hb, hml, hown, hts⟩ (c_X3_cell l D cI cZ (v : Int) (o : Int) ) ⟨va_cnB 2 hts gX1_shortenWays_X3_cell_n32 rfl rfl rfl (hK.2.2 (RX1, 32, yX3_cell) (List.mem_of_getElem? (i := 2) rfl)) (hts (.initialized RX3) (by decide +kernel)) (by decide +kernel) ⟨Nat.le_of_ble_eq_true rfl, Nat.le_of_ble_eq_true rfl⟩, hts (.static yX3_cell) (by decide +kernel), trivial⟩ hK (hP.sub (ws' := []) [] rfl) rfl hl.1 rfl (Nat.le_of_ble_eq_true rfl) dX1_shortenWays_36 ⟨Nat.zero_le _, Nat.zero_le _⟩ rfl ?_
                    refine kx_iald (k := ((v * 6) + o)) hx hb hK hP 3 rfl (by omega) (by omega) (by decide) dX1_shortenWays_39 ?_
                    have rg_1 := hok ((v * 6) + o) (by omega)
                    refine lv_aload_n hx hb dX1_shortenWays_40 rfl (lv_at hl 0 rfl) ?_
                    refine va_get (D := D) (ci := 1) (v := .ref n3) (C := RX1) (T := TX1) (N := 5) hx hb hts iX1 hown hK.1 hP 0 rfl rfl 2 (by decide) (hts (.fieldLink RX1 18 "CloseClocks$Net" "ways" "[I") (by decide +kernel)) (fun _ h9 => h9) rfl dX1_shortenWays_41 ?_
                    refine lv_iload_n hx hb dX1_shortenWays_44 rfl (lv_at hl 1 rfl) ?_
                    refine lv_iload_n hx hb dX1_shortenWays_45 rfl (lv_at hl 3 rfl) ?_
                    refine kx_cSN (As := [.int (iI (o : Int)), .int (iI (w : Int))]) (rest := [.ref n3, .int (iI ((fwI (fwV (fwO wy no.toNat o) o no.toNat v) o v w) ((v * 6) + o)))]) (st1 := [.int (iI (((o : Int) * 6) + (w : Int))), .ref n3, .int (iI ((fwI (fwV (fwO wy no.toNat o) o no.toNat v) o v w) ((v * 6) + o)))]) ⟨hx, hb, hml, hown, hts⟩ (c_X3_cell l D cI cZ (o : Int) (w : Int) ) ⟨va_cnB 2 hts gX1_shortenWays_X3_cell_n32 rfl rfl rfl (hK.2.2 (RX1, 32, yX3_cell) (List.mem_of_getElem? (i := 2) rfl)) (hts (.initialized RX3) (by decide +kernel)) (by decide +kernel) ⟨Nat.le_of_ble_eq_true rfl, Nat.le_of_ble_eq_true rfl⟩, hts (.static yX3_cell) (by decide +kernel), trivial⟩ hK (hP.sub (ws' := []) [] rfl) rfl hl.1 rfl (Nat.le_of_ble_eq_true rfl) dX1_shortenWays_46 ⟨Nat.zero_le _, Nat.zero_le _⟩ rfl ?_
                    refine kx_iald (k := ((o * 6) + w)) hx hb hK hP 3 rfl (by omega) (by omega) (by decide) dX1_shortenWays_49 ?_
                    have rg_2 := hok ((o * 6) + w) (by omega)
                    refine kx_iadd hx hb dX1_shortenWays_50 ?_
                    refine lv_istore (lv' := [(4, .int (iI (((fwI (fwV (fwO wy no.toNat o) o no.toNat v) o v w) ((v * 6) + o)) + ((fwI (fwV (fwO wy no.toNat o) o no.toNat v) o v w) ((o * 6) + w))))), (0, .ref n), (1, .int (iI (o : Int))), (2, .int (iI (v : Int))), (3, .int (iI (w : Int)))]) hx hb dX1_shortenWays_51 hl (by decide) rfl (fun ls hl => ?_)
                    refine lv_aload_n hx hb dX1_shortenWays_53 rfl (lv_at hl 1 rfl) ?_
                    refine va_get (D := D) (ci := 1) (v := .ref n3) (C := RX1) (T := TX1) (N := 5) hx hb hts iX1 hown hK.1 hP 0 rfl rfl 2 (by decide) (hts (.fieldLink RX1 18 "CloseClocks$Net" "ways" "[I") (by decide +kernel)) (fun _ h9 => h9) rfl dX1_shortenWays_54 ?_
                    refine lv_iload_n hx hb dX1_shortenWays_57 rfl (lv_at hl 3 rfl) ?_
                    refine lv_iload_n hx hb dX1_shortenWays_58 rfl (lv_at hl 4 rfl) ?_
                    refine kx_cSN (As := [.int (iI (v : Int)), .int (iI (w : Int))]) (rest := [.ref n3]) (st1 := [.int (iI (((v : Int) * 6) + (w : Int))), .ref n3]) ⟨hx, hb, hml, hown, hts⟩ (c_X3_cell l D cI cZ (v : Int) (w : Int) ) ⟨va_cnB 2 hts gX1_shortenWays_X3_cell_n32 rfl rfl rfl (hK.2.2 (RX1, 32, yX3_cell) (List.mem_of_getElem? (i := 2) rfl)) (hts (.initialized RX3) (by decide +kernel)) (by decide +kernel) ⟨Nat.le_of_ble_eq_true rfl, Nat.le_of_ble_eq_true rfl⟩, hts (.static yX3_cell) (by decide +kernel), trivial⟩ hK (hP.sub (ws' := []) [] rfl) rfl hl.1 rfl (Nat.le_of_ble_eq_true rfl) dX1_shortenWays_59 ⟨Nat.zero_le _, Nat.zero_le _⟩ rfl ?_
                    refine lv_aload_n hx hb dX1_shortenWays_62 rfl (lv_at hl 1 rfl) ?_
                    refine va_get (D := D) (ci := 1) (v := .ref n3) (C := RX1) (T := TX1) (N := 5) hx hb hts iX1 hown hK.1 hP 0 rfl rfl 2 (by decide) (hts (.fieldLink RX1 18 "CloseClocks$Net" "ways" "[I") (by decide +kernel)) (fun _ h9 => h9) rfl dX1_shortenWays_63 ?_
                    refine lv_iload_n hx hb dX1_shortenWays_66 rfl (lv_at hl 3 rfl) ?_
                    refine lv_iload_n hx hb dX1_shortenWays_67 rfl (lv_at hl 4 rfl) ?_
                    refine kx_cSN (As := [.int (iI (v : Int)), .int (iI (w : Int))]) (rest := [.ref n3, .int (iI (((v : Int) * 6) + (w : Int))), .ref n3]) (st1 := [.int (iI (((v : Int) * 6) + (w : Int))), .ref n3, .int (iI (((v : Int) * 6) + (w : Int))), .ref n3]) ⟨hx, hb, hml, hown, hts⟩ (c_X3_cell l D cI cZ (v : Int) (w : Int) ) ⟨va_cnB 2 hts gX1_shortenWays_X3_cell_n32 rfl rfl rfl (hK.2.2 (RX1, 32, yX3_cell) (List.mem_of_getElem? (i := 2) rfl)) (hts (.initialized RX3) (by decide +kernel)) (by decide +kernel) ⟨Nat.le_of_ble_eq_true rfl, Nat.le_of_ble_eq_true rfl⟩, hts (.static yX3_cell) (by decide +kernel), trivial⟩ hK (hP.sub (ws' := []) [] rfl) rfl hl.1 rfl (Nat.le_of_ble_eq_true rfl) dX1_shortenWays_68 ⟨Nat.zero_le _, Nat.zero_le _⟩ rfl ?_
                    refine kx_iald (k := ((v * 6) + w)) hx hb hK hP 3 rfl (by omega) (by omega) (by decide) dX1_shortenWays_71 ?_
                    have rg_3 := hok ((v * 6) + w) (by omega)
                    refine lv_iload hx hb dX1_shortenWays_72 (lv_at hl 0 rfl) ?_
                    refine kx_min hx hb (hml.trans hl.1.symm) hown (hts (.methodLink RX1 60 Lib.Math.min.name) (by decide +kernel)) (hts (.static Lib.Math.min.name) (by decide +kernel)) (hts (.initialized "java/lang/Math") (by decide +kernel)) (hts (.code Lib.Math.min.name Lib.Math.min.code 2 (some .int)) (by decide +kernel)) (by decide) (Nat.le_of_ble_eq_true rfl) (by decide) (by decide) (by omega) (by omega) dX1_shortenWays_74 ?_
                    refine kx_iast (k := ((v * 6) + w)) (x := (min ((fwI (fwV (fwO wy no.toNat o) o no.toNat v) o v w) ((v * 6) + w)) (((fwI (fwV (fwO wy no.toNat o) o no.toNat v) o v w) ((v * 6) + o)) + ((fwI (fwV (fwO wy no.toNat o) o no.toNat v) o v w) ((o * 6) + w))))) hx hb hK hP hD hS 3 rfl (by omega) (by omega) (by decide) dX1_shortenWays_77 (fun H locs hP hD hS => ?_)
                    have hP : va_P D vwCl (ntW cI cZ n n1 n2 n3 no li dg nb (va_up (fwI (fwV (fwO wy no.toNat o) o no.toNat v) o v w) ((v * 6) + w) (min ((fwI (fwV (fwO wy no.toNat o) o no.toNat v) o v w) ((v * 6) + w)) (((fwI (fwV (fwO wy no.toNat o) o no.toNat v) o v w) ((v * 6) + o)) + ((fwI (fwV (fwO wy no.toNat o) o no.toNat v) o v w) ((o * 6) + w)))))) H := hP
                    have hD : va_D A (ntW cI cZ n n1 n2 n3 no li dg nb (va_up (fwI (fwV (fwO wy no.toNat o) o no.toNat v) o v w) ((v * 6) + w) (min ((fwI (fwV (fwO wy no.toNat o) o no.toNat v) o v w) ((v * 6) + w)) (((fwI (fwV (fwO wy no.toNat o) o no.toNat v) o v w) ((v * 6) + o)) + ((fwI (fwV (fwO wy no.toNat o) o no.toNat v) o v w) ((o * 6) + w)))))) := hD
                    refine kx_iinc (z := ((w + 1 : Nat) : Int)) (lv' := [(3, .int (iI ((w + 1 : Nat) : Int))), (4, .int (iI (((fwI (fwV (fwO wy no.toNat o) o no.toNat v) o v w) ((v * 6) + o)) + ((fwI (fwV (fwO wy no.toNat o) o no.toNat v) o v w) ((o * 6) + w))))), (0, .ref n), (1, .int (iI (o : Int))), (2, .int (iI (v : Int)))]) hx hb dX1_shortenWays_78 hl (k0 := 4) rfl (by omega) (by decide) rfl (fun ls hl => ?_)
                    refine lv_goto (tgt := 22) hx hb dX1_shortenWays_81 (by decide) ?_
                    exact ih22 (w + 1) (by first | assumption | omega) (by omega) H locs hP hD hS ls (lv_sub hl [2, 3, 4, 0] rfl)
              exact L22 (no.toNat - 0 + 1) 0 (by first | assumption | omega) (Nat.lt_succ_self _) H locs hP hD hS ls (lv_sub hl [1, 2, 3, 0] rfl)
        exact L12 (no.toNat - 0 + 1) 0 (by first | assumption | omega) (Nat.lt_succ_self _) H locs hP hD hS ls (lv_sub hl [1, 2, 0] rfl)
  exact L2 (no.toNat - 0 + 1) 0 (by first | assumption | omega) (Nat.lt_succ_self _) H locs hP hD hS ls (lv_sub hl [1, 0] rfl)
