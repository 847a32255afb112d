def rm_X0_skewOf : Room := ({ frames := 1, cells := 0, slots := 0, locals := 21 } : Room)
set_option maxHeartbeats 4000000 in
set_option maxRecDepth 100000 in
theorem c_X0_skewOf (l : Launch) (D : va_G) (cI cZ : ClassId) (c c1 c2 c3 c4 c5 c6 n n1 n2 n3 : Nat) (pa ra fa ft dy er : Nat → Int) (ti gr ah be no li : Int) (dg nb wy : Nat → Int) (i j : Nat) (hi : i < 6) (hj : j < 6) (hpa : ∀ k : Nat, k < 24 → 0 ≤ pa k ∧ pa k ≤ 50000000) : kRO l yX0_skewOf wsX0_skewOf rm_X0_skewOf D cI cZ [.ref c, .int (iI (i : Int)), .int (iI (j : Int))] (ckW cI cZ c c1 c2 c3 c4 c5 c6 n n1 n2 n3 pa ra fa ft dy er ti gr ah be no li dg nb wy) (some (.int (iI (xSk pa i j)))) := by
  refine kx_ROi (cc := cX0_skewOf) (maxL := 3) (by decide) rfl (Nat.le_of_ble_eq_true rfl) ?_
  intro pr en s mi args below meth co Q hx hb hml hown hts hK hP hret ls hl
  have hown : s.vm.findClass RX0 = some mi.cls := hown
  have hl : lv_has ls 3 [(0, .ref c), (1, .int (iI (i : Int))), (2, .int (iI (j : Int)))] := hl
  have r1 := hpa i (by omega)
  have r2 := hpa j (by omega)
  refine lv_aload_n hx hb dX0_skewOf_0 rfl (lv_at hl 0 rfl) ?_
  refine lv_iload_n hx hb dX0_skewOf_1 rfl (lv_at hl 1 rfl) ?_
  refine kx_cV (As := [.int (iI (i : Int))]) (rest := []) (st1 := [.int (iI (pa i))]) (q0 := 0) (ci := 0) ⟨hx, hb, hml, hown, hts⟩ (c_X0_clockOf l D cI cZ c c1 c2 c3 c4 c5 c6 n n1 n2 n3 pa ra fa ft dy er ti gr ah be no li dg nb wy i (by first | assumption | omega)) (cwV 1 hts gX0_skewOf_X0_clockOf rfl rfl rfl (by decide +kernel) ⟨Nat.le_of_ble_eq_true rfl, Nat.le_of_ble_eq_true rfl⟩) hK hP rfl rfl rfl hl.1 rfl (Nat.le_of_ble_eq_true rfl) dX0_skewOf_2 ⟨Nat.zero_le _, Nat.zero_le _⟩ rfl ?_
  refine lv_aload_n hx hb dX0_skewOf_5 rfl (lv_at hl 0 rfl) ?_
  refine lv_iload_n hx hb dX0_skewOf_6 rfl (lv_at hl 2 rfl) ?_
  refine kx_cV (As := [.int (iI (j : Int))]) (rest := [.int (iI (pa i))]) (st1 := [.int (iI (pa j)), .int (iI (pa i))]) (q0 := 0) (ci := 0) ⟨hx, hb, hml, hown, hts⟩ (c_X0_clockOf l D cI cZ c c1 c2 c3 c4 c5 c6 n n1 n2 n3 pa ra fa ft dy er ti gr ah be no li dg nb wy j (by first | assumption | omega)) (cwV 1 hts gX0_skewOf_X0_clockOf rfl rfl rfl (by decide +kernel) ⟨Nat.le_of_ble_eq_true rfl, Nat.le_of_ble_eq_true rfl⟩) hK hP rfl rfl rfl hl.1 rfl (Nat.le_of_ble_eq_true rfl) dX0_skewOf_7 ⟨Nat.zero_le _, Nat.zero_le _⟩ rfl ?_
  refine kx_isub hx hb dX0_skewOf_10 ?_
  refine kx_abs hx hb (hml.trans hl.1.symm) hown (hts (.methodLink RX0 134 Lib.Math.abs.name) (by decide +kernel)) (hts (.static Lib.Math.abs.name) (by decide +kernel)) (hts (.initialized "java/lang/Math") (by decide +kernel)) (hts (.code Lib.Math.abs.name Lib.Math.abs.code 1 (some .int)) (by decide +kernel)) (by decide) (Nat.le_of_ble_eq_true rfl) (by decide) (by decide) (by omega) dX0_skewOf_11 ?_
  refine kx_top (b := (xSk pa i j)) (by unfold xSk aD; rfl) ?_
  exact hret _ _ dX0_skewOf_14
def rm_X0_skewByHops : Room := ({ frames := 2, cells := 0, slots := 0, locals := 44 } : Room)
set_option maxHeartbeats 4000000 in
set_option maxRecDepth 100000 in
theorem c_X0_skewByHops (l : Launch) (D : va_G) (cI cZ : ClassId) (c c1 c2 c3 c4 c5 c6 n n1 n2 n3 : Nat) (pa ra fa ft dy er : Nat → Int) (ti gr ah be no li : Int) (dg nb wy : Nat → Int) (z : Int) (hno : 0 ≤ no ∧ no ≤ 6) (hpa : ∀ k : Nat, k < 24 → 0 ≤ pa k ∧ pa k ≤ 50000000) (hwy : ∀ k : Nat, k < 36 → 0 ≤ wy k ∧ wy k ≤ 1000) (hz : -2147483648 ≤ z ∧ z < 2147483648) : kRO l yX0_skewByHops wsX0_skewByHops rm_X0_skewByHops D cI cZ [.ref c, .int (iI z)] (ckW cI cZ c c1 c2 c3 c4 c5 c6 n n1 n2 n3 pa ra fa ft dy er ti gr ah be no li dg nb wy) (some (.int (iI (xSp pa wy no z)))) := by
  refine kx_ROi (cc := cX0_skewByHops) (maxL := 5) (by decide) rfl (Nat.le_of_ble_eq_true rfl) ?_
  intro pr en s mi args below meth co Q hx hb hml hown hts hK hP hret ls hl
  have hown : s.vm.findClass RX0 = some mi.cls := hown
  have iX0 : ∀ w ∈ wsX00, w ∈ wsX0_skewByHops := by decide +kernel
  have iX1 : ∀ w ∈ wsX10, w ∈ wsX0_skewByHops := by decide +kernel
  have hl : lv_has ls 5 [(0, .ref c), (1, .int (iI z))] := hl
  refine kx_ldc (z := -100000001) hx hb hown (hts (.constant RX0 37 (-100000001)) (by decide +kernel)) dX0_skewByHops_0 (by decide) ?_
  refine lv_istore_n (lv' := [(2, .int (iI (-100000001))), (0, .ref c), (1, .int (iI z))]) hx hb dX0_skewByHops_2 rfl hl (by decide) rfl (fun ls hl => ?_)
  refine kx_const (z := 0) hx hb dX0_skewByHops_3 rfl ?_
  refine lv_istore_n (lv' := [(3, .int (iI 0)), (2, .int (iI (-100000001))), (0, .ref c), (1, .int (iI z))]) hx hb dX0_skewByHops_4 rfl hl (by decide) rfl (fun ls hl => ?_)
  have L5 : ∀ (fu : Nat) (v : Nat) (mo : Int), ((v : Int) ≤ no) → (mo = dfx (xHp wy z) (xSk pa) (-100000001) no.toNat v) → (-100000001 ≤ mo ∧ mo ≤ 50000000) → no.toNat - v < fu → ∀ ls : Array Slot, lv_has ls 5 [(0, .ref c), (1, .int (iI z)), (2, .int (iI mo)), (3, .int (iI (v : Int)))] → W pr l en rm_X0_skewByHops s mi args below meth co s.heap [] 0 0 Q (F0 mi 5 ls []) := by
    intro fu
    induction fu with
    | zero =>
      intro v mo hv hmo hmr hfu
      exact absurd hfu (Nat.not_lt_zero _)
    | succ fu ih5 =>
      intro v mo hv hmo hmr hfu ls hl
      refine lv_iload_n hx hb dX0_skewByHops_5 rfl (lv_at hl 3 rfl) ?_
      refine lv_aload_n hx hb dX0_skewByHops_6 rfl (lv_at hl 0 rfl) ?_
      refine va_get (D := D) (ci := 0) (v := .ref n) (C := RX0) (T := TX0) (N := 11) hx hb hts iX0 hown hK.1 hP 0 rfl rfl 0 (by decide) (hts (.fieldLink RX0 44 "CloseClocks$Clocks" "shape" "LCloseClocks$Net;") (by decide +kernel)) (fun _ h9 => h9) rfl dX0_skewByHops_7 ?_
      refine va_getN (D := D) (ci := 1) (v := .int (iI no)) (C := RX1) (T := TX1) (N := 5) hx hb hts iX1 hown hK.1 hP 7 rfl rfl 3 (by decide) (va_Nw.use rfl (hK.2.1 (RX0, 82, RX1, "nodes", "I") (List.mem_of_getElem? (i := 3) rfl))) (fun _ h9 => h9) rfl dX0_skewByHops_10 ?_
      refine kx_icmp_ge (tgt := 71) hx hb (by omega) (by omega) dX0_skewByHops_13 (by decide) (fun h13 => ?_) (fun h13 => ?_)
      · skip
        refine lv_iload_n hx hb dX0_skewByHops_71 rfl (lv_at hl 2 rfl) ?_
        refine kx_top (b := (xSp pa wy no z)) (by rw [hmo, show v = no.toNat by omega]; rfl) ?_
        exact hret _ _ dX0_skewByHops_72
      · skip
        refine lv_iload_n hx hb dX0_skewByHops_16 rfl (lv_at hl 3 rfl) ?_
        refine kx_const (z := 1) hx hb dX0_skewByHops_17 rfl ?_
        refine kx_iadd hx hb dX0_skewByHops_18 ?_
        refine kx_top (b := ((v + 1 : Nat) : Int)) (by omega) ?_
        refine lv_istore (lv' := [(4, .int (iI ((v + 1 : Nat) : Int))), (0, .ref c), (1, .int (iI z)), (2, .int (iI mo)), (3, .int (iI (v : Int)))]) hx hb dX0_skewByHops_19 hl (by decide) rfl (fun ls hl => ?_)
        have L21 : ∀ (fu : Nat) (w : Nat) (mo2 : Int), ((w : Int) ≤ no) → (v + 1 ≤ w) → (mo2 = fmx (shP (xHp wy z) v) (shF (xSk pa) v) mo (w - (v + 1))) → (-100000001 ≤ mo2 ∧ mo2 ≤ 50000000) → no.toNat - w < fu → ∀ ls : Array Slot, lv_has ls 5 [(0, .ref c), (1, .int (iI z)), (2, .int (iI mo2)), (3, .int (iI (v : Int))), (4, .int (iI (w : Int)))] → W pr l en rm_X0_skewByHops s mi args below meth co s.heap [] 0 0 Q (F0 mi 21 ls []) := by
          intro fu
          induction fu with
          | zero =>
            intro w mo2 hw hw2 hmo2 hmr2 hfu
            exact absurd hfu (Nat.not_lt_zero _)
          | succ fu ih21 =>
            intro w mo2 hw hw2 hmo2 hmr2 hfu ls hl
            refine lv_iload hx hb dX0_skewByHops_21 (lv_at hl 4 rfl) ?_
            refine lv_aload_n hx hb dX0_skewByHops_23 rfl (lv_at hl 0 rfl) ?_
            refine va_get (D := D) (ci := 0) (v := .ref n) (C := RX0) (T := TX0) (N := 11) hx hb hts iX0 hown hK.1 hP 0 rfl rfl 0 (by decide) (hts (.fieldLink RX0 44 "CloseClocks$Clocks" "shape" "LCloseClocks$Net;") (by decide +kernel)) (fun _ h9 => h9) rfl dX0_skewByHops_24 ?_
            refine va_getN (D := D) (ci := 1) (v := .int (iI no)) (C := RX1) (T := TX1) (N := 5) hx hb hts iX1 hown hK.1 hP 7 rfl rfl 3 (by decide) (va_Nw.use rfl (hK.2.1 (RX0, 82, RX1, "nodes", "I") (List.mem_of_getElem? (i := 3) rfl))) (fun _ h9 => h9) rfl dX0_skewByHops_27 ?_
            refine kx_icmp_ge (tgt := 65) hx hb (by omega) (by omega) dX0_skewByHops_30 (by decide) (fun h30 => ?_) (fun h30 => ?_)
            · skip
              refine kx_iinc (z := ((v + 1 : Nat) : Int)) (lv' := [(3, .int (iI ((v + 1 : Nat) : Int))), (0, .ref c), (1, .int (iI z)), (2, .int (iI mo2)), (4, .int (iI (w : Int)))]) hx hb dX0_skewByHops_65 hl (k0 := 3) rfl (by omega) (by decide) rfl (fun ls hl => ?_)
              refine lv_goto (tgt := 5) hx hb dX0_skewByHops_68 (by decide) ?_
              exact ih5 (v + 1) mo2 (by first | assumption | omega) (by rw [dfx, ← hmo, hmo2, show w = no.toNat by omega]) (by first | assumption | omega) (by omega) ls (lv_sub hl [1, 2, 3, 0] rfl)
            · skip
              have hsk := xSk_rng hpa (show v < 6 by omega) (show w < 6 by omega)
              have hwj : v + 1 + (w - (v + 1)) = w := by omega
              have hwk : w + 1 - (v + 1) = (w - (v + 1)) + 1 := by omega
              have hwr := hwy (v * 6 + w) (by omega)
              refine lv_aload_n hx hb dX0_skewByHops_33 rfl (lv_at hl 0 rfl) ?_
              refine va_get (D := D) (ci := 0) (v := .ref n) (C := RX0) (T := TX0) (N := 11) hx hb hts iX0 hown hK.1 hP 0 rfl rfl 0 (by decide) (hts (.fieldLink RX0 44 "CloseClocks$Clocks" "shape" "LCloseClocks$Net;") (by decide +kernel)) (fun _ h9 => h9) rfl dX0_skewByHops_34 ?_
              refine lv_iload_n hx hb dX0_skewByHops_37 rfl (lv_at hl 3 rfl) ?_
              refine lv_iload hx hb dX0_skewByHops_38 (lv_at hl 4 rfl) ?_
              refine kx_cV (As := [.int (iI (v : Int)), .int (iI (w : Int))]) (rest := []) (st1 := [.int (iI (if wy (v * 6 + w) < 1000 then wy (v * 6 + w) else (-100000001)))]) (q0 := 0) (ci := 1) ⟨hx, hb, hml, hown, hts⟩ (c_X1_hopsOf l D cI cZ n n1 n2 n3 no li dg nb wy v w (by first | assumption | omega) (by first | assumption | omega) (by first | assumption | omega)) (cwV 2 hts gX0_skewByHops_X1_hopsOf rfl rfl rfl (by decide +kernel) ⟨Nat.le_of_ble_eq_true rfl, Nat.le_of_ble_eq_true rfl⟩) hK (hP.sub (ws' := ntW cI cZ n n1 n2 n3 no li dg nb wy) [7, 8, 9, 10] rfl) rfl rfl rfl hl.1 rfl (Nat.le_of_ble_eq_true rfl) dX0_skewByHops_40 ⟨Nat.zero_le _, Nat.zero_le _⟩ rfl ?_
              refine kx_top (b := (xHo wy v w)) (by unfold xHo; rfl) ?_
              refine lv_iload_n hx hb dX0_skewByHops_43 rfl (lv_at hl 1 rfl) ?_
              refine kx_icmp_ne (tgt := 59) hx hb (by unfold xHo; split <;> omega) (by omega) dX0_skewByHops_44 (by decide) (fun h44 => ?_) (fun h44 => ?_)
              · skip
                refine kx_iinc (z := ((w + 1 : Nat) : Int)) (lv' := [(4, .int (iI ((w + 1 : Nat) : Int))), (0, .ref c), (1, .int (iI z)), (2, .int (iI mo2)), (3, .int (iI (v : Int)))]) hx hb dX0_skewByHops_59 hl (k0 := 4) rfl (by omega) (by decide) rfl (fun ls hl => ?_)
                refine lv_goto (tgt := 21) hx hb dX0_skewByHops_62 (by decide) ?_
                exact ih21 (w + 1) mo2 (by first | assumption | omega) (by first | assumption | omega) (by rw [hwk]; first | exact hmo2.trans (fmx_no (fun q9 => by have q1 : xHp wy z v (v + 1 + (w - (v + 1))) = true := q9.1; rw [hwj, xHp, decide_eq_true_iff] at q1; exact h44 q1)).symm | exact fmx_max (by show xHp wy z v (v + 1 + (w - (v + 1))) = true; rw [hwj, xHp, decide_eq_true_iff]; exact h44) (by show _ = max mo2 (xSk pa v (v + 1 + (w - (v + 1)))); rw [hwj]) hmo2) (by first | assumption | omega) (by omega) ls (lv_sub hl [1, 2, 3, 4, 0] rfl)
              · skip
                refine lv_iload_n hx hb dX0_skewByHops_47 rfl (lv_at hl 2 rfl) ?_
                refine lv_aload_n hx hb dX0_skewByHops_48 rfl (lv_at hl 0 rfl) ?_
                refine lv_iload_n hx hb dX0_skewByHops_49 rfl (lv_at hl 3 rfl) ?_
                refine lv_iload hx hb dX0_skewByHops_50 (lv_at hl 4 rfl) ?_
                refine kx_cV (As := [.int (iI (v : Int)), .int (iI (w : Int))]) (rest := [.int (iI mo2)]) (st1 := [.int (iI (xSk pa v w)), .int (iI mo2)]) (q0 := 0) (ci := 0) ⟨hx, hb, hml, hown, hts⟩ (c_X0_skewOf l D cI cZ c c1 c2 c3 c4 c5 c6 n n1 n2 n3 pa ra fa ft dy er ti gr ah be no li dg nb wy v w (by first | assumption | omega) (by first | assumption | omega) (by first | assumption | omega)) (cwV 2 hts gX0_skewByHops_X0_skewOf rfl rfl rfl (by decide +kernel) ⟨Nat.le_of_ble_eq_true rfl, Nat.le_of_ble_eq_true rfl⟩) hK hP rfl rfl rfl hl.1 rfl (Nat.le_of_ble_eq_true rfl) dX0_skewByHops_52 ⟨Nat.zero_le _, Nat.zero_le _⟩ rfl ?_
                refine kx_max hx hb (hml.trans hl.1.symm) hown (hts (.methodLink RX0 115 Lib.Math.max.name) (by decide +kernel)) (hts (.static Lib.Math.max.name) (by decide +kernel)) (hts (.initialized "java/lang/Math") (by decide +kernel)) (hts (.code Lib.Math.max.name Lib.Math.max.code 2 (some .int)) (by decide +kernel)) (by decide) (Nat.le_of_ble_eq_true rfl) (by decide) (by decide) (by omega) (by omega) dX0_skewByHops_55 ?_
                refine lv_istore_n (lv' := [(2, .int (iI (max mo2 (xSk pa v w)))), (0, .ref c), (1, .int (iI z)), (3, .int (iI (v : Int))), (4, .int (iI (w : Int)))]) hx hb dX0_skewByHops_58 rfl hl (by decide) rfl (fun ls hl => ?_)
                refine kx_iinc (z := ((w + 1 : Nat) : Int)) (lv' := [(4, .int (iI ((w + 1 : Nat) : Int))), (2, .int (iI (max mo2 (xSk pa v w)))), (0, .ref c), (1, .int (iI z)), (3, .int (iI (v : Int)))]) hx hb dX0_skewByHops_59 hl (k0 := 4) rfl (by omega) (by decide) rfl (fun ls hl => ?_)
                refine lv_goto (tgt := 21) hx hb dX0_skewByHops_62 (by decide) ?_
                exact ih21 (w + 1) (max mo2 (xSk pa v w)) (by first | assumption | omega) (by first | assumption | omega) (by rw [hwk]; first | exact hmo2.trans (fmx_no (fun q9 => by have q1 : xHp wy z v (v + 1 + (w - (v + 1))) = true := q9.1; rw [hwj, xHp, decide_eq_true_iff] at q1; exact h44 q1)).symm | exact fmx_max (by show xHp wy z v (v + 1 + (w - (v + 1))) = true; rw [hwj, xHp, decide_eq_true_iff]; exact h44) (by show _ = max mo2 (xSk pa v (v + 1 + (w - (v + 1)))); rw [hwj]) hmo2) (by first | assumption | omega) (by omega) ls (lv_sub hl [2, 3, 1, 4, 0] rfl)
        exact L21 (no.toNat - (v + 1) + 1) (v + 1) mo (by first | assumption | omega) (by first | assumption | omega) (by rw [Nat.sub_self]; rfl) (by first | assumption | omega) (Nat.lt_succ_self _) ls (lv_sub hl [1, 2, 3, 4, 0] rfl)
  exact L5 (no.toNat - 0 + 1) 0 (-100000001) (by first | assumption | omega) (rfl) (by first | assumption | omega) (Nat.lt_succ_self _) ls (lv_sub hl [2, 3, 1, 0] rfl)
def rm_X0_localSkew : Room := ({ frames := 3, cells := 0, slots := 0, locals := 68 } : Room)
set_option maxHeartbeats 4000000 in
set_option maxRecDepth 100000 in
theorem c_X0_localSkew (l : Launch) (D : va_G) (cI cZ : ClassId) (c c1 c2 c3 c4 c5 c6 n n1 n2 n3 : Nat) (pa ra fa ft dy er : Nat → Int) (ti gr ah be no li : Int) (dg nb wy : Nat → Int)  (hno : 0 ≤ no ∧ no ≤ 6) (hpa : ∀ k : Nat, k < 24 → 0 ≤ pa k ∧ pa k ≤ 50000000) (hwy : ∀ k : Nat, k < 36 → 0 ≤ wy k ∧ wy k ≤ 1000) : kRO l yX0_localSkew wsX0_localSkew rm_X0_localSkew D cI cZ [.ref c] (ckW cI cZ c c1 c2 c3 c4 c5 c6 n n1 n2 n3 pa ra fa ft dy er ti gr ah be no li dg nb wy) (some (.int (iI (xSp pa wy no 1)))) := by
  refine kx_ROi (cc := cX0_localSkew) (maxL := 1) (by decide) rfl (Nat.le_of_ble_eq_true rfl) ?_
  intro pr en s mi args below meth co Q hx hb hml hown hts hK hP hret ls hl
  have hown : s.vm.findClass RX0 = some mi.cls := hown
  have hl : lv_has ls 1 [(0, .ref c)] := hl
  refine lv_aload_n hx hb dX0_localSkew_0 rfl (lv_at hl 0 rfl) ?_
  refine kx_const (z := 1) hx hb dX0_localSkew_1 rfl ?_
  refine kx_cV (As := [.int (iI 1)]) (rest := []) (st1 := [.int (iI (xSp pa wy no 1))]) (q0 := 0) (ci := 0) ⟨hx, hb, hml, hown, hts⟩ (c_X0_skewByHops l D cI cZ c c1 c2 c3 c4 c5 c6 n n1 n2 n3 pa ra fa ft dy er ti gr ah be no li dg nb wy 1 (by first | assumption | omega) (by first | assumption | omega) (by first | assumption | omega) (by first | assumption | omega)) (cwV 1 hts gX0_localSkew_X0_skewByHops rfl rfl rfl (by decide +kernel) ⟨Nat.le_of_ble_eq_true rfl, Nat.le_of_ble_eq_true rfl⟩) hK hP rfl rfl rfl hl.1 rfl (Nat.le_of_ble_eq_true rfl) dX0_localSkew_2 ⟨Nat.zero_le _, Nat.zero_le _⟩ rfl ?_
  exact hret _ _ dX0_localSkew_5
def rm_X0_globalSkew : Room := ({ frames := 2, cells := 0, slots := 0, locals := 43 } : Room)
set_option maxHeartbeats 4000000 in
set_option maxRecDepth 100000 in
theorem c_X0_globalSkew (l : Launch) (D : va_G) (cI cZ : ClassId) (c c1 c2 c3 c4 c5 c6 n n1 n2 n3 : Nat) (pa ra fa ft dy er : Nat → Int) (ti gr ah be no li : Int) (dg nb wy : Nat → Int)  (hno : 0 ≤ no ∧ no ≤ 6) (hpa : ∀ k : Nat, k < 24 → 0 ≤ pa k ∧ pa k ≤ 50000000) : kRO l yX0_globalSkew wsX0_globalSkew rm_X0_globalSkew D cI cZ [.ref c] (ckW cI cZ c c1 c2 c3 c4 c5 c6 n n1 n2 n3 pa ra fa ft dy er ti gr ah be no li dg nb wy) (some (.int (iI (xGl pa no)))) := by
  refine kx_ROi (cc := cX0_globalSkew) (maxL := 4) (by decide) rfl (Nat.le_of_ble_eq_true rfl) ?_
  intro pr en s mi args below meth co Q hx hb hml hown hts hK hP hret ls hl
  have hown : s.vm.findClass RX0 = some mi.cls := hown
  have iX0 : ∀ w ∈ wsX00, w ∈ wsX0_globalSkew := by decide +kernel
  have iX1 : ∀ w ∈ wsX10, w ∈ wsX0_globalSkew := by decide +kernel
  have hl : lv_has ls 4 [(0, .ref c)] := hl
  refine kx_const (z := 0) hx hb dX0_globalSkew_0 rfl ?_
  refine lv_istore_n (lv' := [(1, .int (iI 0)), (0, .ref c)]) hx hb dX0_globalSkew_1 rfl hl (by decide) rfl (fun ls hl => ?_)
  refine kx_const (z := 0) hx hb dX0_globalSkew_2 rfl ?_
  refine lv_istore_n (lv' := [(2, .int (iI 0)), (1, .int (iI 0)), (0, .ref c)]) hx hb dX0_globalSkew_3 rfl hl (by decide) rfl (fun ls hl => ?_)
  have L4 : ∀ (fu : Nat) (v : Nat) (mo : Int), ((v : Int) ≤ no) → (mo = dfx mTt (xSk pa) 0 no.toNat v) → (0 ≤ mo ∧ mo ≤ 50000000) → no.toNat - v < fu → ∀ ls : Array Slot, lv_has ls 4 [(0, .ref c), (1, .int (iI mo)), (2, .int (iI (v : Int)))] → W pr l en rm_X0_globalSkew s mi args below meth co s.heap [] 0 0 Q (F0 mi 4 ls []) := by
    intro fu
    induction fu with
    | zero =>
      intro v mo hv hmo hmr hfu
      exact absurd hfu (Nat.not_lt_zero _)
    | succ fu ih4 =>
      intro v mo hv hmo hmr hfu ls hl
      refine lv_iload_n hx hb dX0_globalSkew_4 rfl (lv_at hl 2 rfl) ?_
      refine lv_aload_n hx hb dX0_globalSkew_5 rfl (lv_at hl 0 rfl) ?_
      refine va_get (D := D) (ci := 0) (v := .ref n) (C := RX0) (T := TX0) (N := 11) hx hb hts iX0 hown hK.1 hP 0 rfl rfl 0 (by decide) (hts (.fieldLink RX0 44 "CloseClocks$Clocks" "shape" "LCloseClocks$Net;") (by decide +kernel)) (fun _ h9 => h9) rfl dX0_globalSkew_6 ?_
      refine va_getN (D := D) (ci := 1) (v := .int (iI no)) (C := RX1) (T := TX1) (N := 5) hx hb hts iX1 hown hK.1 hP 7 rfl rfl 3 (by decide) (va_Nw.use rfl (hK.2.1 (RX0, 82, RX1, "nodes", "I") (List.mem_of_getElem? (i := 3) rfl))) (fun _ h9 => h9) rfl dX0_globalSkew_9 ?_
      refine kx_icmp_ge (tgt := 53) hx hb (by omega) (by omega) dX0_globalSkew_12 (by decide) (fun h12 => ?_) (fun h12 => ?_)
      · skip
        refine lv_iload_n hx hb dX0_globalSkew_53 rfl (lv_at hl 1 rfl) ?_
        refine kx_top (b := (xGl pa no)) (by rw [hmo, show v = no.toNat by omega]; rfl) ?_
        exact hret _ _ dX0_globalSkew_54
      · skip
        refine lv_iload_n hx hb dX0_globalSkew_15 rfl (lv_at hl 2 rfl) ?_
        refine kx_const (z := 1) hx hb dX0_globalSkew_16 rfl ?_
        refine kx_iadd hx hb dX0_globalSkew_17 ?_
        refine kx_top (b := ((v + 1 : Nat) : Int)) (by omega) ?_
        refine lv_istore_n (lv' := [(3, .int (iI ((v + 1 : Nat) : Int))), (0, .ref c), (1, .int (iI mo)), (2, .int (iI (v : Int)))]) hx hb dX0_globalSkew_18 rfl hl (by decide) rfl (fun ls hl => ?_)
        have L19 : ∀ (fu : Nat) (w : Nat) (mo2 : Int), ((w : Int) ≤ no) → (v + 1 ≤ w) → (mo2 = fmx (shP mTt v) (shF (xSk pa) v) mo (w - (v + 1))) → (0 ≤ mo2 ∧ mo2 ≤ 50000000) → no.toNat - w < fu → ∀ ls : Array Slot, lv_has ls 4 [(0, .ref c), (1, .int (iI mo2)), (2, .int (iI (v : Int))), (3, .int (iI (w : Int)))] → W pr l en rm_X0_globalSkew s mi args below meth co s.heap [] 0 0 Q (F0 mi 19 ls []) := by
          intro fu
          induction fu with
          | zero =>
            intro w mo2 hw hw2 hmo2 hmr2 hfu
            exact absurd hfu (Nat.not_lt_zero _)
          | succ fu ih19 =>
            intro w mo2 hw hw2 hmo2 hmr2 hfu ls hl
            refine lv_iload_n hx hb dX0_globalSkew_19 rfl (lv_at hl 3 rfl) ?_
            refine lv_aload_n hx hb dX0_globalSkew_20 rfl (lv_at hl 0 rfl) ?_
            refine va_get (D := D) (ci := 0) (v := .ref n) (C := RX0) (T := TX0) (N := 11) hx hb hts iX0 hown hK.1 hP 0 rfl rfl 0 (by decide) (hts (.fieldLink RX0 44 "CloseClocks$Clocks" "shape" "LCloseClocks$Net;") (by decide +kernel)) (fun _ h9 => h9) rfl dX0_globalSkew_21 ?_
            refine va_getN (D := D) (ci := 1) (v := .int (iI no)) (C := RX1) (T := TX1) (N := 5) hx hb hts iX1 hown hK.1 hP 7 rfl rfl 3 (by decide) (va_Nw.use rfl (hK.2.1 (RX0, 82, RX1, "nodes", "I") (List.mem_of_getElem? (i := 3) rfl))) (fun _ h9 => h9) rfl dX0_globalSkew_24 ?_
            refine kx_icmp_ge (tgt := 47) hx hb (by omega) (by omega) dX0_globalSkew_27 (by decide) (fun h27 => ?_) (fun h27 => ?_)
            · skip
              refine kx_iinc (z := ((v + 1 : Nat) : Int)) (lv' := [(2, .int (iI ((v + 1 : Nat) : Int))), (0, .ref c), (1, .int (iI mo2)), (3, .int (iI (w : Int)))]) hx hb dX0_globalSkew_47 hl (k0 := 2) rfl (by omega) (by decide) rfl (fun ls hl => ?_)
              refine lv_goto (tgt := 4) hx hb dX0_globalSkew_50 (by decide) ?_
              exact ih4 (v + 1) mo2 (by first | assumption | omega) (by rw [dfx, ← hmo, hmo2, show w = no.toNat by omega]) (by first | assumption | omega) (by omega) ls (lv_sub hl [1, 2, 0] rfl)
            · skip
              have hsk := xSk_rng hpa (show v < 6 by omega) (show w < 6 by omega)
              have hwj : v + 1 + (w - (v + 1)) = w := by omega
              have hwk : w + 1 - (v + 1) = (w - (v + 1)) + 1 := by omega
              refine lv_iload_n hx hb dX0_globalSkew_30 rfl (lv_at hl 1 rfl) ?_
              refine lv_aload_n hx hb dX0_globalSkew_31 rfl (lv_at hl 0 rfl) ?_
              refine lv_iload_n hx hb dX0_globalSkew_32 rfl (lv_at hl 2 rfl) ?_
              refine lv_iload_n hx hb dX0_globalSkew_33 rfl (lv_at hl 3 rfl) ?_
              refine kx_cV (As := [.int (iI (v : Int)), .int (iI (w : Int))]) (rest := [.int (iI mo2)]) (st1 := [.int (iI (xSk pa v w)), .int (iI mo2)]) (q0 := 0) (ci := 0) ⟨hx, hb, hml, hown, hts⟩ (c_X0_skewOf l D cI cZ c c1 c2 c3 c4 c5 c6 n n1 n2 n3 pa ra fa ft dy er ti gr ah be no li dg nb wy v w (by first | assumption | omega) (by first | assumption | omega) (by first | assumption | omega)) (cwV 2 hts gX0_globalSkew_X0_skewOf rfl rfl rfl (by decide +kernel) ⟨Nat.le_of_ble_eq_true rfl, Nat.le_of_ble_eq_true rfl⟩) hK hP rfl rfl rfl hl.1 rfl (Nat.le_of_ble_eq_true rfl) dX0_globalSkew_34 ⟨Nat.zero_le _, Nat.zero_le _⟩ rfl ?_
              refine kx_max hx hb (hml.trans hl.1.symm) hown (hts (.methodLink RX0 115 Lib.Math.max.name) (by decide +kernel)) (hts (.static Lib.Math.max.name) (by decide +kernel)) (hts (.initialized "java/lang/Math") (by decide +kernel)) (hts (.code Lib.Math.max.name Lib.Math.max.code 2 (some .int)) (by decide +kernel)) (by decide) (Nat.le_of_ble_eq_true rfl) (by decide) (by decide) (by omega) (by omega) dX0_globalSkew_37 ?_
              refine lv_istore_n (lv' := [(1, .int (iI (max mo2 (xSk pa v w)))), (0, .ref c), (2, .int (iI (v : Int))), (3, .int (iI (w : Int)))]) hx hb dX0_globalSkew_40 rfl hl (by decide) rfl (fun ls hl => ?_)
              refine kx_iinc (z := ((w + 1 : Nat) : Int)) (lv' := [(3, .int (iI ((w + 1 : Nat) : Int))), (1, .int (iI (max mo2 (xSk pa v w)))), (0, .ref c), (2, .int (iI (v : Int)))]) hx hb dX0_globalSkew_41 hl (k0 := 3) rfl (by omega) (by decide) rfl (fun ls hl => ?_)
              refine lv_goto (tgt := 19) hx hb dX0_globalSkew_44 (by decide) ?_
              exact ih19 (w + 1) (max mo2 (xSk pa v w)) (by first | assumption | omega) (by first | assumption | omega) (by rw [hwk]; exact fmx_max rfl (by show _ = max mo2 (xSk pa v (v + 1 + (w - (v + 1)))); rw [hwj]) hmo2) (by first | assumption | omega) (by omega) ls (lv_sub hl [2, 1, 3, 0] rfl)
        exact L19 (no.toNat - (v + 1) + 1) (v + 1) mo (by first | assumption | omega) (by first | assumption | omega) (by rw [Nat.sub_self]; rfl) (by first | assumption | omega) (Nat.lt_succ_self _) ls (lv_sub hl [1, 2, 3, 0] rfl)
  exact L4 (no.toNat - 0 + 1) 0 0 (by first | assumption | omega) (rfl) (by first | assumption | omega) (Nat.lt_succ_self _) ls (lv_sub hl [2, 1, 0] rfl)
def rm_X0_howManyFast : Room := ({ frames := 0, cells := 0, slots := 0, locals := 0 } : Room)
set_option maxHeartbeats 4000000 in
set_option maxRecDepth 100000 in
theorem c_X0_howManyFast (l : Launch) (D : va_G) (cI cZ : ClassId) (c c1 c2 c3 c4 c5 c6 n n1 n2 n3 : Nat) (pa ra fa ft dy er : Nat → Int) (ti gr ah be no li : Int) (dg nb wy : Nat → Int)  (hno : 0 ≤ no ∧ no ≤ 6) : kRO l yX0_howManyFast wsX0_howManyFast rm_X0_howManyFast D cI cZ [.ref c] (ckW cI cZ c c1 c2 c3 c4 c5 c6 n n1 n2 n3 pa ra fa ft dy er ti gr ah be no li dg nb wy) (some (.int (iI (sumF fa no.toNat)))) := by
  refine kx_ROi (cc := cX0_howManyFast) (maxL := 3) (by decide) rfl (Nat.le_of_ble_eq_true rfl) ?_
  intro pr en s mi args below meth co Q hx hb hml hown hts hK hP hret ls hl
  have hown : s.vm.findClass RX0 = some mi.cls := hown
  have iX0 : ∀ w ∈ wsX00, w ∈ wsX0_howManyFast := by decide +kernel
  have iX1 : ∀ w ∈ wsX10, w ∈ wsX0_howManyFast := by decide +kernel
  have hl : lv_has ls 3 [(0, .ref c)] := hl
  refine kx_const (z := 0) hx hb dX0_howManyFast_0 rfl ?_
  refine lv_istore_n (lv' := [(1, .int (iI 0)), (0, .ref c)]) hx hb dX0_howManyFast_1 rfl hl (by decide) rfl (fun ls hl => ?_)
  refine kx_const (z := 0) hx hb dX0_howManyFast_2 rfl ?_
  refine lv_istore_n (lv' := [(2, .int (iI 0)), (1, .int (iI 0)), (0, .ref c)]) hx hb dX0_howManyFast_3 rfl hl (by decide) rfl (fun ls hl => ?_)
  have L4 : ∀ (fu : Nat) (v : Nat) (mo : Int), ((v : Int) ≤ no) → (mo = sumF fa v) → no.toNat - v < fu → ∀ ls : Array Slot, lv_has ls 3 [(0, .ref c), (1, .int (iI mo)), (2, .int (iI (v : Int)))] → W pr l en rm_X0_howManyFast s mi args below meth co s.heap [] 0 0 Q (F0 mi 4 ls []) := by
    intro fu
    induction fu with
    | zero =>
      intro v mo hv hmo hfu
      exact absurd hfu (Nat.not_lt_zero _)
    | succ fu ih4 =>
      intro v mo hv hmo hfu ls hl
      refine lv_iload_n hx hb dX0_howManyFast_4 rfl (lv_at hl 2 rfl) ?_
      refine lv_aload_n hx hb dX0_howManyFast_5 rfl (lv_at hl 0 rfl) ?_
      refine va_get (D := D) (ci := 0) (v := .ref n) (C := RX0) (T := TX0) (N := 11) hx hb hts iX0 hown hK.1 hP 0 rfl rfl 0 (by decide) (hts (.fieldLink RX0 44 "CloseClocks$Clocks" "shape" "LCloseClocks$Net;") (by decide +kernel)) (fun _ h9 => h9) rfl dX0_howManyFast_6 ?_
      refine va_getN (D := D) (ci := 1) (v := .int (iI no)) (C := RX1) (T := TX1) (N := 5) hx hb hts iX1 hown hK.1 hP 7 rfl rfl 3 (by decide) (va_Nw.use rfl (hK.2.1 (RX0, 82, RX1, "nodes", "I") (List.mem_of_getElem? (i := 3) rfl))) (fun _ h9 => h9) rfl dX0_howManyFast_9 ?_
      refine kx_icmp_ge (tgt := 30) hx hb (by omega) (by omega) dX0_howManyFast_12 (by decide) (fun h12 => ?_) (fun h12 => ?_)
      · skip
        refine lv_iload_n hx hb dX0_howManyFast_30 rfl (lv_at hl 1 rfl) ?_
        refine kx_top (b := (sumF fa no.toNat)) (by rw [hmo, show v = no.toNat by omega]) ?_
        exact hret _ _ dX0_howManyFast_31
      · skip
        refine lv_iload_n hx hb dX0_howManyFast_15 rfl (lv_at hl 1 rfl) ?_
        refine lv_aload_n hx hb dX0_howManyFast_16 rfl (lv_at hl 0 rfl) ?_
        refine va_get (D := D) (ci := 0) (v := .ref c3) (C := RX0) (T := TX0) (N := 11) hx hb hts iX0 hown hK.1 hP 0 rfl rfl 3 (by decide) (hts (.fieldLink RX0 18 "CloseClocks$Clocks" "fast" "[I") (by decide +kernel)) (fun _ h9 => h9) rfl dX0_howManyFast_17 ?_
        refine lv_iload_n hx hb dX0_howManyFast_20 rfl (lv_at hl 2 rfl) ?_
        refine kx_iald (k := v) hx hb hK hP 3 rfl (by omega) (by omega) (by decide) dX0_howManyFast_21 ?_
        refine kx_iadd hx hb dX0_howManyFast_22 ?_
        refine lv_istore_n (lv' := [(1, .int (iI (mo + (fa v)))), (0, .ref c), (2, .int (iI (v : Int)))]) hx hb dX0_howManyFast_23 rfl hl (by decide) rfl (fun ls hl => ?_)
        refine kx_iinc (z := ((v + 1 : Nat) : Int)) (lv' := [(2, .int (iI ((v + 1 : Nat) : Int))), (1, .int (iI (mo + (fa v)))), (0, .ref c)]) hx hb dX0_howManyFast_24 hl (k0 := 2) rfl (by omega) (by decide) rfl (fun ls hl => ?_)
        refine lv_goto (tgt := 4) hx hb dX0_howManyFast_27 (by decide) ?_
        exact ih4 (v + 1) (mo + (fa v)) (by first | assumption | omega) (by rw [sumF, hmo]) (by omega) ls (lv_sub hl [2, 1, 0] rfl)
  exact L4 (no.toNat - 0 + 1) 0 0 (by first | assumption | omega) (rfl) (Nat.lt_succ_self _) ls (lv_sub hl [2, 1, 0] rfl)
def rm_X0_tick : Room := ({ frames := 4, cells := 0, slots := 0, locals := 95 } : Room)
set_option maxHeartbeats 4000000 in
set_option maxRecDepth 100000 in
theorem c_X0_tick (l : Launch) (D : va_G) (cI cZ : ClassId) (c c1 c2 c3 c4 c5 c6 n n1 n2 n3 : Nat) (pa ra fa ft dy er : Nat → Int) (ti gr ah be no li : Int) (dg nb wy : Nat → Int) (sp bq : Int) (hno : 0 ≤ no ∧ no ≤ 6) (hpa : ∀ k : Nat, k < 24 → 0 ≤ pa k ∧ pa k ≤ 50000000) (hdy : ∀ k : Nat, k < 36 → 0 ≤ dy k ∧ dy k ≤ 3) (her : ∀ k : Nat, k < 36 → -9 ≤ er k ∧ er k ≤ 9) (hdg : ∀ v : Nat, v < 6 → 0 ≤ dg v ∧ dg v ≤ 5) (hnb : ∀ v k : Nat, v < 6 → (k : Int) < dg v → 0 ≤ nb (v * 6 + k) ∧ nb (v * 6 + k) < 6) (hsp : 1 ≤ sp ∧ sp ≤ 500) (hwy : ∀ k : Nat, k < 36 → 0 ≤ wy k ∧ wy k ≤ 1000) (hra : ∀ k : Nat, k < 6 → 0 ≤ ra k ∧ ra k ≤ 110) (hfa : ∀ k : Nat, k < 6 → fa k = 0 ∨ fa k = 1) (hbq : 1 ≤ bq ∧ bq ≤ 60) (hpa4 : ∀ k : Nat, k < 24 → 0 ≤ pa k ∧ pa k ≤ 49000000) (hgr9 : 0 ≤ gr ∧ gr ≤ 50000000) : kWR l yX0_tick wsX0_tick rm_X0_tick D cI cZ [.ref c, .int (iI sp), .int (iI bq)] (ckW cI cZ c c1 c2 c3 c4 c5 c6 n n1 n2 n3 pa ra fa ft dy er ti gr ah be no li dg nb wy) (fun u : Int × Int => none) (fun u : Int × Int => True) (fun u : Int × Int => ckW cI cZ c c1 c2 c3 c4 c5 c6 n n1 n2 n3 (xPa pa ra fa dy er dg nb no sp bq) ra (xFa pa fa dy er dg nb no sp) (xFt pa fa ft dy er dg nb no sp) dy er (ti + 1) (max gr (xSp (xPa pa ra fa dy er dg nb no sp bq) wy no 1)) u.1 u.2 no li dg nb wy) 0 0 := by
  refine kx_WRv (cc := cX0_tick) (maxL := 4) (by decide) rfl (Nat.le_of_ble_eq_true rfl) ?_
  intro pr en s mi args below meth co Q A hx hb hml hown hts hK hin hA hP hD hS hret ls hl
  have hown : s.vm.findClass RX0 = some mi.cls := hown
  have iX0 : ∀ w ∈ wsX00, w ∈ wsX0_tick := by decide +kernel
  have iX1 : ∀ w ∈ wsX10, w ∈ wsX0_tick := by decide +kernel
  have hl : lv_has ls 4 [(0, .ref c), (1, .int (iI sp)), (2, .int (iI bq))] := hl
  generalize hH0 : s.heap = H0 at hA hP hS hret ⊢
  obtain ⟨H, hH⟩ : ∃ H : Heap, H = H0 := ⟨_, rfl⟩
  obtain ⟨locs, hlocs⟩ : ∃ locs : List Loc, locs = [] := ⟨_, rfl⟩
  have hS : va_S A H0 H locs := by rw [hH, hlocs]; exact hS
  have hP : va_P D vwCl (ckW cI cZ c c1 c2 c3 c4 c5 c6 n n1 n2 n3 pa ra fa ft dy er ti gr ah be no li dg nb wy) H := by rw [hH]; exact hP
  suffices hgo : W pr l en rm_X0_tick s mi args below meth co H locs 0 0 Q (F0 mi 0 ls []) by rw [hH, hlocs] at hgo; exact hgo
  clear hH hlocs
  have hpb : ∀ k : Nat, k < 24 → 0 ≤ (xPa pa ra fa dy er dg nb no sp bq) k ∧ (xPa pa ra fa dy er dg nb no sp bq) k ≤ 50000000 := fun k hk => by have := xPa_bd (dy := dy) (er := er) (dg := dg) (nb := nb) (no := no) (sp := sp) hpa4 hra hfa hbq k hk; omega
  have hls := xSp_rng (wy := wy) (z := 1) hpb hno
  refine lv_aload_n hx hb dX0_tick_0 rfl (lv_at hl 0 rfl) ?_
  refine lv_iload_n hx hb dX0_tick_1 rfl (lv_at hl 1 rfl) ?_
  refine lv_iload_n hx hb dX0_tick_2 rfl (lv_at hl 2 rfl) ?_
  refine kx_cVW (As := [.int (iI sp), .int (iI bq)]) (rest := []) (wr := []) (q0 := 0) (ci := 0) ⟨hx, hb, hml, hown, hts⟩ (c_X0_move l D cI cZ c c1 c2 c3 c4 c5 c6 n n1 n2 n3 pa ra fa ft dy er ti gr ah be no li dg nb wy sp bq (by first | assumption | omega) (by first | assumption | omega) (by first | assumption | omega) (by first | assumption | omega) (by first | assumption | omega) (by first | assumption | omega) (by first | assumption | omega)) (cwV 2 hts gX0_tick_X0_move rfl rfl rfl (by decide +kernel) ⟨Nat.le_of_ble_eq_true rfl, Nat.le_of_ble_eq_true rfl⟩) hK hP hD hS hA [0, 1, 2, 3, 4, 5, 6, 7, 8, 9, 10] [] rfl rfl (by decide) (by decide) (by decide) rfl rfl rfl hl.1 rfl (Nat.le_of_ble_eq_true rfl) dX0_tick_3 ⟨Nat.le_of_ble_eq_true rfl, Nat.le_of_ble_eq_true rfl⟩ (fun u H locs hq hP hD hS => ?_)
  obtain ⟨u_1, u_2⟩ := u
  have hP : va_P D vwCl (ckW cI cZ c c1 c2 c3 c4 c5 c6 n n1 n2 n3 (xPa pa ra fa dy er dg nb no sp bq) ra (xFa pa fa dy er dg nb no sp) ft dy er ti gr u_1 u_2 no li dg nb wy) H := hP.sub [0, 1, 2, 3, 4, 5, 6, 7, 8, 9, 10] rfl
  have hD : va_D A (ckW cI cZ c c1 c2 c3 c4 c5 c6 n n1 n2 n3 (xPa pa ra fa dy er dg nb no sp bq) ra (xFa pa fa dy er dg nb no sp) ft dy er ti gr u_1 u_2 no li dg nb wy) := hD.sub [0, 1, 2, 3, 4, 5, 6, 7, 8, 9, 10] (by decide) rfl
  refine W.eq (g2 := F0 mi 6 ls []) rfl ?_
  refine kx_const (z := 0) hx hb dX0_tick_6 rfl ?_
  refine lv_istore_n (lv' := [(3, .int (iI 0)), (0, .ref c), (1, .int (iI sp)), (2, .int (iI bq))]) hx hb dX0_tick_7 rfl hl (by decide) rfl (fun ls hl => ?_)
  have L8 : ∀ (fu : Nat) (v : Nat) (gt : Nat → Int), ((v : Int) ≤ no) → (∀ k : Nat, k < 6 → gt k = if k < v then (fun q => ft q + (xFa pa fa dy er dg nb no sp) q) k else ft k) → no.toNat - v < fu → ∀ (H : Heap) (locs : List Loc), va_P D vwCl (ckW cI cZ c c1 c2 c3 c4 c5 c6 n n1 n2 n3 (xPa pa ra fa dy er dg nb no sp bq) ra (xFa pa fa dy er dg nb no sp) gt dy er ti gr u_1 u_2 no li dg nb wy) H → va_D A (ckW cI cZ c c1 c2 c3 c4 c5 c6 n n1 n2 n3 (xPa pa ra fa dy er dg nb no sp bq) ra (xFa pa fa dy er dg nb no sp) gt dy er ti gr u_1 u_2 no li dg nb wy) → va_S A H0 H locs → ∀ ls : Array Slot, lv_has ls 4 [(0, .ref c), (1, .int (iI sp)), (2, .int (iI bq)), (3, .int (iI (v : Int)))] → W pr l en rm_X0_tick s mi args below meth co H locs 0 0 Q (F0 mi 8 ls []) := by
    intro fu
    induction fu with
    | zero =>
      intro v gt hv hgt hfu
      exact absurd hfu (Nat.not_lt_zero _)
    | succ fu ih8 =>
      intro v gt hv hgt hfu H locs hP hD hS ls hl
      refine lv_iload_n hx hb dX0_tick_8 rfl (lv_at hl 3 rfl) ?_
      refine lv_aload_n hx hb dX0_tick_9 rfl (lv_at hl 0 rfl) ?_
      refine va_get (D := D) (ci := 0) (v := .ref n) (C := RX0) (T := TX0) (N := 11) hx hb hts iX0 hown hK.1 hP 0 rfl rfl 0 (by decide) (hts (.fieldLink RX0 44 "CloseClocks$Clocks" "shape" "LCloseClocks$Net;") (by decide +kernel)) (fun _ h9 => h9) rfl dX0_tick_10 ?_
      refine va_getN (D := D) (ci := 1) (v := .int (iI no)) (C := RX1) (T := TX1) (N := 5) hx hb hts iX1 hown hK.1 hP 7 rfl rfl 3 (by decide) (va_Nw.use rfl (hK.2.1 (RX0, 82, RX1, "nodes", "I") (List.mem_of_getElem? (i := 3) rfl))) (fun _ h9 => h9) rfl dX0_tick_13 ?_
      refine kx_icmp_ge (tgt := 40) hx hb (by omega) (by omega) dX0_tick_16 (by decide) (fun h16 => ?_) (fun h16 => ?_)
      · skip
        obtain ⟨hP, hD⟩ := kx_arr (g' := (xFt pa fa ft dy er dg nb no sp)) hP hD 4 rfl (fun k hk => by rw [hgt k hk, show v = no.toNat by omega]; rfl)
        have hP : va_P D vwCl (ckW cI cZ c c1 c2 c3 c4 c5 c6 n n1 n2 n3 (xPa pa ra fa dy er dg nb no sp bq) ra (xFa pa fa dy er dg nb no sp) (xFt pa fa ft dy er dg nb no sp) dy er ti gr u_1 u_2 no li dg nb wy) H := hP
        have hD : va_D A (ckW cI cZ c c1 c2 c3 c4 c5 c6 n n1 n2 n3 (xPa pa ra fa dy er dg nb no sp bq) ra (xFa pa fa dy er dg nb no sp) (xFt pa fa ft dy er dg nb no sp) dy er ti gr u_1 u_2 no li dg nb wy) := hD
        refine lv_aload_n hx hb dX0_tick_40 rfl (lv_at hl 0 rfl) ?_
        refine lv_dup hx hb dX0_tick_41 rfl ?_
        refine va_get (D := D) (ci := 0) (v := .int (iI ti)) (C := RX0) (T := TX0) (N := 11) hx hb hts iX0 hown hK.1 hP 0 rfl rfl 7 (by decide) (hts (.fieldLink RX0 30 "CloseClocks$Clocks" "ticks" "I") (by decide +kernel)) (fun _ h9 => h9) rfl dX0_tick_42 ?_
        refine kx_const (z := 1) hx hb dX0_tick_45 rfl ?_
        refine kx_iadd hx hb dX0_tick_46 ?_
        refine va_put (D := D) (ci := 0) (v := .int (iI (ti + 1))) (ty := .int) (C := RX0) (T := TX0) (N := 11) hx hb hts iX0 tyX0 tyX0_ok nmX0 hown hK.1 hP hD hS 0 rfl rfl 7 (by decide) (hts (.fieldLink RX0 30 "CloseClocks$Clocks" "ticks" "I") (by decide +kernel)) (fun _ h9 => h9) rfl (by decide +kernel) rfl rfl (Nat.le_of_ble_eq_true rfl) dX0_tick_47 (fun H locs hP hD hS => ?_)
        have hP : va_P D vwCl (ckW cI cZ c c1 c2 c3 c4 c5 c6 n n1 n2 n3 (xPa pa ra fa dy er dg nb no sp bq) ra (xFa pa fa dy er dg nb no sp) (xFt pa fa ft dy er dg nb no sp) dy er (ti + 1) gr u_1 u_2 no li dg nb wy) H := hP
        have hD : va_D A (ckW cI cZ c c1 c2 c3 c4 c5 c6 n n1 n2 n3 (xPa pa ra fa dy er dg nb no sp bq) ra (xFa pa fa dy er dg nb no sp) (xFt pa fa ft dy er dg nb no sp) dy er (ti + 1) gr u_1 u_2 no li dg nb wy) := hD
        refine lv_aload_n hx hb dX0_tick_50 rfl (lv_at hl 0 rfl) ?_
        refine lv_aload_n hx hb dX0_tick_51 rfl (lv_at hl 0 rfl) ?_
        refine va_get (D := D) (ci := 0) (v := .int (iI gr)) (C := RX0) (T := TX0) (N := 11) hx hb hts iX0 hown hK.1 hP 0 rfl rfl 8 (by decide) (hts (.fieldLink RX0 34 "CloseClocks$Clocks" "greatestLocal" "I") (by decide +kernel)) (fun _ h9 => h9) rfl dX0_tick_52 ?_
        refine lv_aload_n hx hb dX0_tick_55 rfl (lv_at hl 0 rfl) ?_
        refine kx_cV (As := []) (rest := [.int (iI gr), .ref c]) (st1 := [.int (iI (xSp (xPa pa ra fa dy er dg nb no sp bq) wy no 1)), .int (iI gr), .ref c]) (q0 := 0) (ci := 0) ⟨hx, hb, hml, hown, hts⟩ (c_X0_localSkew l D cI cZ c c1 c2 c3 c4 c5 c6 n n1 n2 n3 (xPa pa ra fa dy er dg nb no sp bq) ra (xFa pa fa dy er dg nb no sp) (xFt pa fa ft dy er dg nb no sp) dy er (ti + 1) gr u_1 u_2 no li dg nb wy (by first | assumption | omega) (hpb) (by first | assumption | omega)) (cwV 0 hts gX0_tick_X0_localSkew rfl rfl rfl (by decide +kernel) ⟨Nat.le_of_ble_eq_true rfl, Nat.le_of_ble_eq_true rfl⟩) hK hP rfl rfl rfl hl.1 rfl (Nat.le_of_ble_eq_true rfl) dX0_tick_56 ⟨Nat.zero_le _, Nat.zero_le _⟩ rfl ?_
        refine kx_max hx hb (hml.trans hl.1.symm) hown (hts (.methodLink RX0 115 Lib.Math.max.name) (by decide +kernel)) (hts (.static Lib.Math.max.name) (by decide +kernel)) (hts (.initialized "java/lang/Math") (by decide +kernel)) (hts (.code Lib.Math.max.name Lib.Math.max.code 2 (some .int)) (by decide +kernel)) (by decide) (Nat.le_of_ble_eq_true rfl) (by decide) (by decide) (by omega) (by omega) dX0_tick_59 ?_
        refine va_put (D := D) (ci := 0) (v := .int (iI (max gr (xSp (xPa pa ra fa dy er dg nb no sp bq) wy no 1)))) (ty := .int) (C := RX0) (T := TX0) (N := 11) hx hb hts iX0 tyX0 tyX0_ok nmX0 hown hK.1 hP hD hS 0 rfl rfl 8 (by decide) (hts (.fieldLink RX0 34 "CloseClocks$Clocks" "greatestLocal" "I") (by decide +kernel)) (fun _ h9 => h9) rfl (by decide +kernel) rfl rfl (Nat.le_of_ble_eq_true rfl) dX0_tick_62 (fun H locs hP hD hS => ?_)
        have hP : va_P D vwCl (ckW cI cZ c c1 c2 c3 c4 c5 c6 n n1 n2 n3 (xPa pa ra fa dy er dg nb no sp bq) ra (xFa pa fa dy er dg nb no sp) (xFt pa fa ft dy er dg nb no sp) dy er (ti + 1) (max gr (xSp (xPa pa ra fa dy er dg nb no sp bq) wy no 1)) u_1 u_2 no li dg nb wy) H := hP
        have hD : va_D A (ckW cI cZ c c1 c2 c3 c4 c5 c6 n n1 n2 n3 (xPa pa ra fa dy er dg nb no sp bq) ra (xFa pa fa dy er dg nb no sp) (xFt pa fa ft dy er dg nb no sp) dy er (ti + 1) (max gr (xSp (xPa pa ra fa dy er dg nb no sp bq) wy no 1)) u_1 u_2 no li dg nb wy) := hD
        exact hret (u_1, u_2) H locs _ _ (trivial) hP hD hS dX0_tick_65
      · skip
        refine lv_aload_n hx hb dX0_tick_19 rfl (lv_at hl 0 rfl) ?_
        refine va_get (D := D) (ci := 0) (v := .ref c4) (C := RX0) (T := TX0) (N := 11) hx hb hts iX0 hown hK.1 hP 0 rfl rfl 4 (by decide) (hts (.fieldLink RX0 21 "CloseClocks$Clocks" "fastTicks" "[I") (by decide +kernel)) (fun _ h9 => h9) rfl dX0_tick_20 ?_
        refine lv_iload_n hx hb dX0_tick_23 rfl (lv_at hl 3 rfl) ?_
        refine lv_dup2_11 hx hb dX0_tick_24 rfl rfl ?_
        refine kx_iald (k := v) hx hb hK hP 4 rfl (by omega) (by omega) (by decide) dX0_tick_25 ?_
        refine lv_aload_n hx hb dX0_tick_26 rfl (lv_at hl 0 rfl) ?_
        refine va_get (D := D) (ci := 0) (v := .ref c3) (C := RX0) (T := TX0) (N := 11) hx hb hts iX0 hown hK.1 hP 0 rfl rfl 3 (by decide) (hts (.fieldLink RX0 18 "CloseClocks$Clocks" "fast" "[I") (by decide +kernel)) (fun _ h9 => h9) rfl dX0_tick_27 ?_
        refine lv_iload_n hx hb dX0_tick_30 rfl (lv_at hl 3 rfl) ?_
        refine kx_iald (k := v) hx hb hK hP 3 rfl (by omega) (by omega) (by decide) dX0_tick_31 ?_
        refine kx_iadd hx hb dX0_tick_32 ?_
        refine kx_iast (k := v) (x := ((gt v) + ((xFa pa fa dy er dg nb no sp) v))) hx hb hK hP hD hS 4 rfl (by omega) (by omega) (by decide) dX0_tick_33 (fun H locs hP hD hS => ?_)
        have hP : va_P D vwCl (ckW cI cZ c c1 c2 c3 c4 c5 c6 n n1 n2 n3 (xPa pa ra fa dy er dg nb no sp bq) ra (xFa pa fa dy er dg nb no sp) (va_up gt v ((gt v) + ((xFa pa fa dy er dg nb no sp) v))) dy er ti gr u_1 u_2 no li dg nb wy) H := hP
        have hD : va_D A (ckW cI cZ c c1 c2 c3 c4 c5 c6 n n1 n2 n3 (xPa pa ra fa dy er dg nb no sp bq) ra (xFa pa fa dy er dg nb no sp) (va_up gt v ((gt v) + ((xFa pa fa dy er dg nb no sp) v))) dy er ti gr u_1 u_2 no li dg nb wy) := hD
        refine kx_iinc (z := ((v + 1 : Nat) : Int)) (lv' := [(3, .int (iI ((v + 1 : Nat) : Int))), (0, .ref c), (1, .int (iI sp)), (2, .int (iI bq))]) hx hb dX0_tick_34 hl (k0 := 3) rfl (by omega) (by decide) rfl (fun ls hl => ?_)
        refine lv_goto (tgt := 8) hx hb dX0_tick_37 (by decide) ?_
        exact ih8 (v + 1) (va_up gt v ((gt v) + ((xFa pa fa dy er dg nb no sp) v))) (by first | assumption | omega) (up_mix hgt (by rw [mix_at hgt (by omega)])) (by omega) H locs hP hD hS ls (lv_sub hl [1, 2, 3, 0] rfl)
  exact L8 (no.toNat - 0 + 1) 0 ft (by first | assumption | omega) (mix_0) (Nat.lt_succ_self _) H locs hP hD hS ls (lv_sub hl [1, 2, 3, 0] rfl)
def rm_X0_tellClock : Room := ({ frames := 1, cells := 0, slots := 0, locals := 21 } : Room)
set_option maxHeartbeats 4000000 in
set_option maxRecDepth 100000 in
theorem c_X0_tellClock (l : Launch) (D : va_G) (cI cZ : ClassId) (c c1 c2 c3 c4 c5 c6 n n1 n2 n3 : Nat) (pa ra fa ft dy er : Nat → Int) (ti gr ah be no li : Int) (dg nb wy : Nat → Int) (v : Nat) (z : Int) (hv : v < 6) : kWR l yX0_tellClock wsX0_tellClock rm_X0_tellClock D cI cZ [.ref c, .int (iI (v : Int)), .int (iI z)] (ckW cI cZ c c1 c2 c3 c4 c5 c6 n n1 n2 n3 pa ra fa ft dy er ti gr ah be no li dg nb wy) (fun u : Unit => none) (fun u : Unit => True) (fun u : Unit => ckW cI cZ c c1 c2 c3 c4 c5 c6 n n1 n2 n3 (tcC pa v z) ra fa ft dy er ti gr ah be no li dg nb wy) 0 0 := by
  refine kx_WRv (cc := cX0_tellClock) (maxL := 4) (by decide) rfl (Nat.le_of_ble_eq_true rfl) ?_
  intro pr en s mi args below meth co Q A hx hb hml hown hts hK hin hA hP hD hS hret ls hl
  have hown : s.vm.findClass RX0 = some mi.cls := hown
  have iX0 : ∀ w ∈ wsX00, w ∈ wsX0_tellClock := by decide +kernel
  have hl : lv_has ls 4 [(0, .ref c), (1, .int (iI (v : Int))), (2, .int (iI z))] := hl
  generalize hH0 : s.heap = H0 at hA hP hS hret ⊢
  obtain ⟨H, hH⟩ : ∃ H : Heap, H = H0 := ⟨_, rfl⟩
  obtain ⟨locs, hlocs⟩ : ∃ locs : List Loc, locs = [] := ⟨_, rfl⟩
  have hS : va_S A H0 H locs := by rw [hH, hlocs]; exact hS
  have hP : va_P D vwCl (ckW cI cZ c c1 c2 c3 c4 c5 c6 n n1 n2 n3 pa ra fa ft dy er ti gr ah be no li dg nb wy) H := by rw [hH]; exact hP
  suffices hgo : W pr l en rm_X0_tellClock s mi args below meth co H locs 0 0 Q (F0 mi 0 ls []) by rw [hH, hlocs] at hgo; exact hgo
  clear hH hlocs
  refine kx_const (z := 0) hx hb dX0_tellClock_0 rfl ?_
  refine lv_istore_n (lv' := [(3, .int (iI 0)), (0, .ref c), (1, .int (iI (v : Int))), (2, .int (iI z))]) hx hb dX0_tellClock_1 rfl hl (by decide) rfl (fun ls hl => ?_)
  refine lv_iload_n hx hb dX0_tellClock_2 rfl (lv_at hl 0 rfl) ?_
  refine kx_const (z := 3) hx hb dX0_tellClock_3 rfl ?_
  refine kx_icmp_gt (tgt := 24) hx hb (by omega) (by omega) dX0_tellClock_4 (by decide) (fun h4 => ?_) (fun h4 => ?_)
  · skip
    exfalso; omega
  · skip
    refine lv_aload_n hx hb dX0_tellClock_7 rfl (lv_at hl 1 rfl) ?_
    refine va_get (D := D) (ci := 0) (v := .ref c1) (C := RX0) (T := TX0) (N := 11) hx hb hts iX0 hown hK.1 hP 0 rfl rfl 1 (by decide) (hts (.fieldLink RX0 9 "CloseClocks$Clocks" "past" "[I") (by decide +kernel)) (fun _ h9 => h9) rfl dX0_tellClock_8 ?_
    refine lv_iload_n hx hb dX0_tellClock_11 rfl (lv_at hl 0 rfl) ?_
    refine lv_iload_n hx hb dX0_tellClock_12 rfl (lv_at hl 2 rfl) ?_
    refine kx_cSN (As := [.int (iI 0), .int (iI (v : Int))]) (rest := [.ref c1]) (st1 := [.int (iI ((0 * 6) + (v : Int))), .ref c1]) ⟨hx, hb, hml, hown, hts⟩ (c_X3_cell l D cI cZ 0 (v : Int) ) ⟨va_cnB 2 hts gX0_tellClock_X3_cell_n89 rfl rfl rfl (hK.2.2 (RX0, 89, yX3_cell) (List.mem_of_getElem? (i := 3) rfl)) (hts (.initialized RX3) (by decide +kernel)) (by decide +kernel) ⟨Nat.le_of_ble_eq_true rfl, Nat.le_of_ble_eq_true rfl⟩, hts (.static yX3_cell) (by decide +kernel), trivial⟩ hK (hP.sub (ws' := []) [] rfl) rfl hl.1 rfl (Nat.le_of_ble_eq_true rfl) dX0_tellClock_13 ⟨Nat.zero_le _, Nat.zero_le _⟩ rfl ?_
    refine lv_iload_n hx hb dX0_tellClock_16 rfl (lv_at hl 3 rfl) ?_
    refine kx_iast (k := ((0 * 6) + v)) (x := z) hx hb hK hP hD hS 1 rfl (by omega) (by omega) (by decide) dX0_tellClock_17 (fun H locs hP hD hS => ?_)
    have hP : va_P D vwCl (ckW cI cZ c c1 c2 c3 c4 c5 c6 n n1 n2 n3 (va_up pa ((0 * 6) + v) z) ra fa ft dy er ti gr ah be no li dg nb wy) H := hP
    have hD : va_D A (ckW cI cZ c c1 c2 c3 c4 c5 c6 n n1 n2 n3 (va_up pa ((0 * 6) + v) z) ra fa ft dy er ti gr ah be no li dg nb wy) := hD
    refine kx_iinc (z := 1) (lv' := [(3, .int (iI 1)), (0, .ref c), (1, .int (iI (v : Int))), (2, .int (iI z))]) hx hb dX0_tellClock_18 hl (k0 := 0) rfl (by omega) (by decide) rfl (fun ls hl => ?_)
    refine lv_goto (tgt := 2) hx hb dX0_tellClock_21 (by decide) ?_
    refine lv_iload_n hx hb dX0_tellClock_2 rfl (lv_at hl 0 rfl) ?_
    refine kx_const (z := 3) hx hb dX0_tellClock_3 rfl ?_
    refine kx_icmp_gt (tgt := 24) hx hb (by omega) (by omega) dX0_tellClock_4 (by decide) (fun h4 => ?_) (fun h4 => ?_)
    · skip
      exfalso; omega
    · skip
      refine lv_aload_n hx hb dX0_tellClock_7 rfl (lv_at hl 1 rfl) ?_
      refine va_get (D := D) (ci := 0) (v := .ref c1) (C := RX0) (T := TX0) (N := 11) hx hb hts iX0 hown hK.1 hP 0 rfl rfl 1 (by decide) (hts (.fieldLink RX0 9 "CloseClocks$Clocks" "past" "[I") (by decide +kernel)) (fun _ h9 => h9) rfl dX0_tellClock_8 ?_
      refine lv_iload_n hx hb dX0_tellClock_11 rfl (lv_at hl 0 rfl) ?_
      refine lv_iload_n hx hb dX0_tellClock_12 rfl (lv_at hl 2 rfl) ?_
      refine kx_cSN (As := [.int (iI 1), .int (iI (v : Int))]) (rest := [.ref c1]) (st1 := [.int (iI ((1 * 6) + (v : Int))), .ref c1]) ⟨hx, hb, hml, hown, hts⟩ (c_X3_cell l D cI cZ 1 (v : Int) ) ⟨va_cnB 2 hts gX0_tellClock_X3_cell_n89 rfl rfl rfl (hK.2.2 (RX0, 89, yX3_cell) (List.mem_of_getElem? (i := 3) rfl)) (hts (.initialized RX3) (by decide +kernel)) (by decide +kernel) ⟨Nat.le_of_ble_eq_true rfl, Nat.le_of_ble_eq_true rfl⟩, hts (.static yX3_cell) (by decide +kernel), trivial⟩ hK (hP.sub (ws' := []) [] rfl) rfl hl.1 rfl (Nat.le_of_ble_eq_true rfl) dX0_tellClock_13 ⟨Nat.zero_le _, Nat.zero_le _⟩ rfl ?_
      refine lv_iload_n hx hb dX0_tellClock_16 rfl (lv_at hl 3 rfl) ?_
      refine kx_iast (k := ((1 * 6) + v)) (x := z) hx hb hK hP hD hS 1 rfl (by omega) (by omega) (by decide) dX0_tellClock_17 (fun H locs hP hD hS => ?_)
      have hP : va_P D vwCl (ckW cI cZ c c1 c2 c3 c4 c5 c6 n n1 n2 n3 (va_up (va_up pa ((0 * 6) + v) z) ((1 * 6) + v) z) ra fa ft dy er ti gr ah be no li dg nb wy) H := hP
      have hD : va_D A (ckW cI cZ c c1 c2 c3 c4 c5 c6 n n1 n2 n3 (va_up (va_up pa ((0 * 6) + v) z) ((1 * 6) + v) z) ra fa ft dy er ti gr ah be no li dg nb wy) := hD
      refine kx_iinc (z := 2) (lv' := [(3, .int (iI 2)), (0, .ref c), (1, .int (iI (v : Int))), (2, .int (iI z))]) hx hb dX0_tellClock_18 hl (k0 := 0) rfl (by omega) (by decide) rfl (fun ls hl => ?_)
      refine lv_goto (tgt := 2) hx hb dX0_tellClock_21 (by decide) ?_
      refine lv_iload_n hx hb dX0_tellClock_2 rfl (lv_at hl 0 rfl) ?_
      refine kx_const (z := 3) hx hb dX0_tellClock_3 rfl ?_
      refine kx_icmp_gt (tgt := 24) hx hb (by omega) (by omega) dX0_tellClock_4 (by decide) (fun h4 => ?_) (fun h4 => ?_)
      · skip
        exfalso; omega
      · skip
        refine lv_aload_n hx hb dX0_tellClock_7 rfl (lv_at hl 1 rfl) ?_
        refine va_get (D := D) (ci := 0) (v := .ref c1) (C := RX0) (T := TX0) (N := 11) hx hb hts iX0 hown hK.1 hP 0 rfl rfl 1 (by decide) (hts (.fieldLink RX0 9 "CloseClocks$Clocks" "past" "[I") (by decide +kernel)) (fun _ h9 => h9) rfl dX0_tellClock_8 ?_
        refine lv_iload_n hx hb dX0_tellClock_11 rfl (lv_at hl 0 rfl) ?_
        refine lv_iload_n hx hb dX0_tellClock_12 rfl (lv_at hl 2 rfl) ?_
        refine kx_cSN (As := [.int (iI 2), .int (iI (v : Int))]) (rest := [.ref c1]) (st1 := [.int (iI ((2 * 6) + (v : Int))), .ref c1]) ⟨hx, hb, hml, hown, hts⟩ (c_X3_cell l D cI cZ 2 (v : Int) ) ⟨va_cnB 2 hts gX0_tellClock_X3_cell_n89 rfl rfl rfl (hK.2.2 (RX0, 89, yX3_cell) (List.mem_of_getElem? (i := 3) rfl)) (hts (.initialized RX3) (by decide +kernel)) (by decide +kernel) ⟨Nat.le_of_ble_eq_true rfl, Nat.le_of_ble_eq_true rfl⟩, hts (.static yX3_cell) (by decide +kernel), trivial⟩ hK (hP.sub (ws' := []) [] rfl) rfl hl.1 rfl (Nat.le_of_ble_eq_true rfl) dX0_tellClock_13 ⟨Nat.zero_le _, Nat.zero_le _⟩ rfl ?_
        refine lv_iload_n hx hb dX0_tellClock_16 rfl (lv_at hl 3 rfl) ?_
        refine kx_iast (k := ((2 * 6) + v)) (x := z) hx hb hK hP hD hS 1 rfl (by omega) (by omega) (by decide) dX0_tellClock_17 (fun H locs hP hD hS => ?_)
        have hP : va_P D vwCl (ckW cI cZ c c1 c2 c3 c4 c5 c6 n n1 n2 n3 (va_up (va_up (va_up pa ((0 * 6) + v) z) ((1 * 6) + v) z) ((2 * 6) + v) z) ra fa ft dy er ti gr ah be no li dg nb wy) H := hP
        have hD : va_D A (ckW cI cZ c c1 c2 c3 c4 c5 c6 n n1 n2 n3 (va_up (va_up (va_up pa ((0 * 6) + v) z) ((1 * 6) + v) z) ((2 * 6) + v) z) ra fa ft dy er ti gr ah be no li dg nb wy) := hD
        refine kx_iinc (z := 3) (lv' := [(3, .int (iI 3)), (0, .ref c), (1, .int (iI (v : Int))), (2, .int (iI z))]) hx hb dX0_tellClock_18 hl (k0 := 0) rfl (by omega) (by decide) rfl (fun ls hl => ?_)
        refine lv_goto (tgt := 2) hx hb dX0_tellClock_21 (by decide) ?_
        refine lv_iload_n hx hb dX0_tellClock_2 rfl (lv_at hl 0 rfl) ?_
        refine kx_const (z := 3) hx hb dX0_tellClock_3 rfl ?_
        refine kx_icmp_gt (tgt := 24) hx hb (by omega) (by omega) dX0_tellClock_4 (by decide) (fun h4 => ?_) (fun h4 => ?_)
        · skip
          exfalso; omega
        · skip
          refine lv_aload_n hx hb dX0_tellClock_7 rfl (lv_at hl 1 rfl) ?_
          refine va_get (D := D) (ci := 0) (v := .ref c1) (C := RX0) (T := TX0) (N := 11) hx hb hts iX0 hown hK.1 hP 0 rfl rfl 1 (by decide) (hts (.fieldLink RX0 9 "CloseClocks$Clocks" "past" "[I") (by decide +kernel)) (fun _ h9 => h9) rfl dX0_tellClock_8 ?_
          refine lv_iload_n hx hb dX0_tellClock_11 rfl (lv_at hl 0 rfl) ?_
          refine lv_iload_n hx hb dX0_tellClock_12 rfl (lv_at hl 2 rfl) ?_
          refine kx_cSN (As := [.int (iI 3), .int (iI (v : Int))]) (rest := [.ref c1]) (st1 := [.int (iI ((3 * 6) + (v : Int))), .ref c1]) ⟨hx, hb, hml, hown, hts⟩ (c_X3_cell l D cI cZ 3 (v : Int) ) ⟨va_cnB 2 hts gX0_tellClock_X3_cell_n89 rfl rfl rfl (hK.2.2 (RX0, 89, yX3_cell) (List.mem_of_getElem? (i := 3) rfl)) (hts (.initialized RX3) (by decide +kernel)) (by decide +kernel) ⟨Nat.le_of_ble_eq_true rfl, Nat.le_of_ble_eq_true rfl⟩, hts (.static yX3_cell) (by decide +kernel), trivial⟩ hK (hP.sub (ws' := []) [] rfl) rfl hl.1 rfl (Nat.le_of_ble_eq_true rfl) dX0_tellClock_13 ⟨Nat.zero_le _, Nat.zero_le _⟩ rfl ?_
          refine lv_iload_n hx hb dX0_tellClock_16 rfl (lv_at hl 3 rfl) ?_
          refine kx_iast (k := ((3 * 6) + v)) (x := z) hx hb hK hP hD hS 1 rfl (by omega) (by omega) (by decide) dX0_tellClock_17 (fun H locs hP hD hS => ?_)
          have hP : va_P D vwCl (ckW cI cZ c c1 c2 c3 c4 c5 c6 n n1 n2 n3 (va_up (va_up (va_up (va_up pa ((0 * 6) + v) z) ((1 * 6) + v) z) ((2 * 6) + v) z) ((3 * 6) + v) z) ra fa ft dy er ti gr ah be no li dg nb wy) H := hP
          have hD : va_D A (ckW cI cZ c c1 c2 c3 c4 c5 c6 n n1 n2 n3 (va_up (va_up (va_up (va_up pa ((0 * 6) + v) z) ((1 * 6) + v) z) ((2 * 6) + v) z) ((3 * 6) + v) z) ra fa ft dy er ti gr ah be no li dg nb wy) := hD
          refine kx_iinc (z := 4) (lv' := [(3, .int (iI 4)), (0, .ref c), (1, .int (iI (v : Int))), (2, .int (iI z))]) hx hb dX0_tellClock_18 hl (k0 := 0) rfl (by omega) (by decide) rfl (fun ls hl => ?_)
          refine lv_goto (tgt := 2) hx hb dX0_tellClock_21 (by decide) ?_
          refine lv_iload_n hx hb dX0_tellClock_2 rfl (lv_at hl 0 rfl) ?_
          refine kx_const (z := 3) hx hb dX0_tellClock_3 rfl ?_
          refine kx_icmp_gt (tgt := 24) hx hb (by omega) (by omega) dX0_tellClock_4 (by decide) (fun h4 => ?_) (fun h4 => ?_)
          · skip
            obtain ⟨hP, hD⟩ := kx_arr (g' := (tcC pa v z)) hP hD 1 rfl (by intro k hk; simp only [va_up, tcC]; (repeat' split) <;> first | rfl | omega)
            have hP : va_P D vwCl (ckW cI cZ c c1 c2 c3 c4 c5 c6 n n1 n2 n3 (tcC pa v z) ra fa ft dy er ti gr ah be no li dg nb wy) H := hP
            have hD : va_D A (ckW cI cZ c c1 c2 c3 c4 c5 c6 n n1 n2 n3 (tcC pa v z) ra fa ft dy er ti gr ah be no li dg nb wy) := hD
            exact hret () H locs _ _ (trivial) hP hD hS dX0_tellClock_24
          · skip
            exfalso; omega
def rm_X0_tellDelay : Room := ({ frames := 2, cells := 0, slots := 0, locals := 43 } : Room)
set_option maxHeartbeats 4000000 in
set_option maxRecDepth 100000 in
theorem c_X0_tellDelay (l : Launch) (D : va_G) (cI cZ : ClassId) (c c1 c2 c3 c4 c5 c6 n n1 n2 n3 : Nat) (pa ra fa ft dy er : Nat → Int) (ti gr ah be no li : Int) (dg nb wy : Nat → Int) (i j : Nat) (z : Int) (hno : 0 ≤ no ∧ no ≤ 6) (hwy : ∀ k : Nat, k < 36 → 0 ≤ wy k ∧ wy k ≤ 1000) (hi : (i : Int) < no) (hj : (j : Int) < no) (hl9 : wy (i * 6 + j) = 1) : kWR l yX0_tellDelay wsX0_tellDelay rm_X0_tellDelay D cI cZ [.ref c, .int (iI (i : Int)), .int (iI (j : Int)), .int (iI z)] (ckW cI cZ c c1 c2 c3 c4 c5 c6 n n1 n2 n3 pa ra fa ft dy er ti gr ah be no li dg nb wy) (fun u : Unit => none) (fun u : Unit => True) (fun u : Unit => ckW cI cZ c c1 c2 c3 c4 c5 c6 n n1 n2 n3 pa ra fa ft (va_up (va_up dy (i * 6 + j) z) (j * 6 + i) z) er ti gr ah be no li dg nb wy) 0 0 := by
  refine kx_WRv (cc := cX0_tellDelay) (maxL := 4) (by decide) rfl (Nat.le_of_ble_eq_true rfl) ?_
  intro pr en s mi args below meth co Q A hx hb hml hown hts hK hin hA hP hD hS hret ls hl
  have hown : s.vm.findClass RX0 = some mi.cls := hown
  have iX0 : ∀ w ∈ wsX00, w ∈ wsX0_tellDelay := by decide +kernel
  have hl : lv_has ls 4 [(0, .ref c), (1, .int (iI (i : Int))), (2, .int (iI (j : Int))), (3, .int (iI z))] := hl
  generalize hH0 : s.heap = H0 at hA hP hS hret ⊢
  obtain ⟨H, hH⟩ : ∃ H : Heap, H = H0 := ⟨_, rfl⟩
  obtain ⟨locs, hlocs⟩ : ∃ locs : List Loc, locs = [] := ⟨_, rfl⟩
  have hS : va_S A H0 H locs := by rw [hH, hlocs]; exact hS
  have hP : va_P D vwCl (ckW cI cZ c c1 c2 c3 c4 c5 c6 n n1 n2 n3 pa ra fa ft dy er ti gr ah be no li dg nb wy) H := by rw [hH]; exact hP
  suffices hgo : W pr l en rm_X0_tellDelay s mi args below meth co H locs 0 0 Q (F0 mi 0 ls []) by rw [hH, hlocs] at hgo; exact hgo
  clear hH hlocs
  refine lv_aload_n hx hb dX0_tellDelay_0 rfl (lv_at hl 0 rfl) ?_
  refine va_get (D := D) (ci := 0) (v := .ref n) (C := RX0) (T := TX0) (N := 11) hx hb hts iX0 hown hK.1 hP 0 rfl rfl 0 (by decide) (hts (.fieldLink RX0 44 "CloseClocks$Clocks" "shape" "LCloseClocks$Net;") (by decide +kernel)) (fun _ h9 => h9) rfl dX0_tellDelay_1 ?_
  refine lv_iload_n hx hb dX0_tellDelay_4 rfl (lv_at hl 1 rfl) ?_
  refine lv_iload_n hx hb dX0_tellDelay_5 rfl (lv_at hl 2 rfl) ?_
  refine kx_cV (As := [.int (iI (i : Int)), .int (iI (j : Int))]) (rest := []) (st1 := [.int (iI (if ((0 ≤ (i : Int) ∧ (i : Int) < no) ∧ (0 ≤ (j : Int) ∧ (j : Int) < no) ∧ wy (((i : Int) * 6 + (j : Int)).toNat) = 1) then 1 else 0))]) (q0 := 0) (ci := 1) ⟨hx, hb, hml, hown, hts⟩ (c_X1_hasLink l D cI cZ n n1 n2 n3 no li dg nb wy (i : Int) (j : Int) (by first | assumption | omega) (by first | assumption | omega) (by first | assumption | omega) (by first | assumption | omega)) (cwV 2 hts gX0_tellDelay_X1_hasLink rfl rfl rfl (by decide +kernel) ⟨Nat.le_of_ble_eq_true rfl, Nat.le_of_ble_eq_true rfl⟩) hK (hP.sub (ws' := ntW cI cZ n n1 n2 n3 no li dg nb wy) [7, 8, 9, 10] rfl) rfl rfl rfl hl.1 rfl (Nat.le_of_ble_eq_true rfl) dX0_tellDelay_6 ⟨Nat.zero_le _, Nat.zero_le _⟩ rfl ?_
  refine kx_if_eqB (tgt := 34) hx hb dX0_tellDelay_9 (by decide) (fun h9 => ?_) (fun h9 => ?_)
  · skip
    exact absurd (show _ from ⟨⟨by omega, by omega⟩, ⟨by omega, by omega⟩, by rw [show ((i : Int) * 6 + (j : Int)).toNat = i * 6 + j by omega]; exact hl9⟩) h9
  · skip
    refine lv_aload_n hx hb dX0_tellDelay_12 rfl (lv_at hl 0 rfl) ?_
    refine va_get (D := D) (ci := 0) (v := .ref c5) (C := RX0) (T := TX0) (N := 11) hx hb hts iX0 hown hK.1 hP 0 rfl rfl 5 (by decide) (hts (.fieldLink RX0 24 "CloseClocks$Clocks" "delays" "[I") (by decide +kernel)) (fun _ h9 => h9) rfl dX0_tellDelay_13 ?_
    refine lv_iload_n hx hb dX0_tellDelay_16 rfl (lv_at hl 1 rfl) ?_
    refine lv_iload_n hx hb dX0_tellDelay_17 rfl (lv_at hl 2 rfl) ?_
    refine kx_cSN (As := [.int (iI (i : Int)), .int (iI (j : Int))]) (rest := [.ref c5]) (st1 := [.int (iI (((i : Int) * 6) + (j : Int))), .ref c5]) ⟨hx, hb, hml, hown, hts⟩ (c_X3_cell l D cI cZ (i : Int) (j : Int) ) ⟨va_cnB 2 hts gX0_tellDelay_X3_cell_n89 rfl rfl rfl (hK.2.2 (RX0, 89, yX3_cell) (List.mem_of_getElem? (i := 3) rfl)) (hts (.initialized RX3) (by decide +kernel)) (by decide +kernel) ⟨Nat.le_of_ble_eq_true rfl, Nat.le_of_ble_eq_true rfl⟩, hts (.static yX3_cell) (by decide +kernel), trivial⟩ hK (hP.sub (ws' := []) [] rfl) rfl hl.1 rfl (Nat.le_of_ble_eq_true rfl) dX0_tellDelay_18 ⟨Nat.zero_le _, Nat.zero_le _⟩ rfl ?_
    refine lv_iload_n hx hb dX0_tellDelay_21 rfl (lv_at hl 3 rfl) ?_
    refine kx_iast (k := ((i * 6) + j)) (x := z) hx hb hK hP hD hS 5 rfl (by omega) (by omega) (by decide) dX0_tellDelay_22 (fun H locs hP hD hS => ?_)
    have hP : va_P D vwCl (ckW cI cZ c c1 c2 c3 c4 c5 c6 n n1 n2 n3 pa ra fa ft (va_up dy ((i * 6) + j) z) er ti gr ah be no li dg nb wy) H := hP
    have hD : va_D A (ckW cI cZ c c1 c2 c3 c4 c5 c6 n n1 n2 n3 pa ra fa ft (va_up dy ((i * 6) + j) z) er ti gr ah be no li dg nb wy) := hD
    refine lv_aload_n hx hb dX0_tellDelay_23 rfl (lv_at hl 0 rfl) ?_
    refine va_get (D := D) (ci := 0) (v := .ref c5) (C := RX0) (T := TX0) (N := 11) hx hb hts iX0 hown hK.1 hP 0 rfl rfl 5 (by decide) (hts (.fieldLink RX0 24 "CloseClocks$Clocks" "delays" "[I") (by decide +kernel)) (fun _ h9 => h9) rfl dX0_tellDelay_24 ?_
    refine lv_iload_n hx hb dX0_tellDelay_27 rfl (lv_at hl 2 rfl) ?_
    refine lv_iload_n hx hb dX0_tellDelay_28 rfl (lv_at hl 1 rfl) ?_
    refine kx_cSN (As := [.int (iI (j : Int)), .int (iI (i : Int))]) (rest := [.ref c5]) (st1 := [.int (iI (((j : Int) * 6) + (i : Int))), .ref c5]) ⟨hx, hb, hml, hown, hts⟩ (c_X3_cell l D cI cZ (j : Int) (i : Int) ) ⟨va_cnB 2 hts gX0_tellDelay_X3_cell_n89 rfl rfl rfl (hK.2.2 (RX0, 89, yX3_cell) (List.mem_of_getElem? (i := 3) rfl)) (hts (.initialized RX3) (by decide +kernel)) (by decide +kernel) ⟨Nat.le_of_ble_eq_true rfl, Nat.le_of_ble_eq_true rfl⟩, hts (.static yX3_cell) (by decide +kernel), trivial⟩ hK (hP.sub (ws' := []) [] rfl) rfl hl.1 rfl (Nat.le_of_ble_eq_true rfl) dX0_tellDelay_29 ⟨Nat.zero_le _, Nat.zero_le _⟩ rfl ?_
    refine lv_iload_n hx hb dX0_tellDelay_32 rfl (lv_at hl 3 rfl) ?_
    refine kx_iast (k := ((j * 6) + i)) (x := z) hx hb hK hP hD hS 5 rfl (by omega) (by omega) (by decide) dX0_tellDelay_33 (fun H locs hP hD hS => ?_)
    have hP : va_P D vwCl (ckW cI cZ c c1 c2 c3 c4 c5 c6 n n1 n2 n3 pa ra fa ft (va_up (va_up dy ((i * 6) + j) z) ((j * 6) + i) z) er ti gr ah be no li dg nb wy) H := hP
    have hD : va_D A (ckW cI cZ c c1 c2 c3 c4 c5 c6 n n1 n2 n3 pa ra fa ft (va_up (va_up dy ((i * 6) + j) z) ((j * 6) + i) z) er ti gr ah be no li dg nb wy) := hD
    exact hret () H locs _ _ (trivial) hP hD hS dX0_tellDelay_34
def rm_X0_tellRates : Room := ({ frames := 0, cells := 0, slots := 0, locals := 0 } : Room)
set_option maxHeartbeats 4000000 in
set_option maxRecDepth 100000 in
theorem c_X0_tellRates (l : Launch) (D : va_G) (cI cZ : ClassId) (c c1 c2 c3 c4 c5 c6 n n1 n2 n3 : Nat) (pa ra fa ft dy er : Nat → Int) (ti gr ah be no li : Int) (dg nb wy : Nat → Int) (b : Nat) (hno : 0 ≤ no ∧ no ≤ 6) (hb9 : b < 64) : kWR l yX0_tellRates wsX0_tellRates rm_X0_tellRates D cI cZ [.ref c, .int (iI (b : Int))] (ckW cI cZ c c1 c2 c3 c4 c5 c6 n n1 n2 n3 pa ra fa ft dy er ti gr ah be no li dg nb wy) (fun u : Unit => none) (fun u : Unit => True) (fun u : Unit => ckW cI cZ c c1 c2 c3 c4 c5 c6 n n1 n2 n3 pa (rW ra no b) fa ft dy er ti gr ah be no li dg nb wy) 0 0 := by
  refine kx_WRv (cc := cX0_tellRates) (maxL := 3) (by decide) rfl (Nat.le_of_ble_eq_true rfl) ?_
  intro pr en s mi args below meth co Q A hx hb hml hown hts hK hin hA hP hD hS hret ls hl
  have hown : s.vm.findClass RX0 = some mi.cls := hown
  have iX0 : ∀ w ∈ wsX00, w ∈ wsX0_tellRates := by decide +kernel
  have iX1 : ∀ w ∈ wsX10, w ∈ wsX0_tellRates := by decide +kernel
  have hl : lv_has ls 3 [(0, .ref c), (1, .int (iI (b : Int)))] := hl
  generalize hH0 : s.heap = H0 at hA hP hS hret ⊢
  obtain ⟨H, hH⟩ : ∃ H : Heap, H = H0 := ⟨_, rfl⟩
  obtain ⟨locs, hlocs⟩ : ∃ locs : List Loc, locs = [] := ⟨_, rfl⟩
  have hS : va_S A H0 H locs := by rw [hH, hlocs]; exact hS
  have hP : va_P D vwCl (ckW cI cZ c c1 c2 c3 c4 c5 c6 n n1 n2 n3 pa ra fa ft dy er ti gr ah be no li dg nb wy) H := by rw [hH]; exact hP
  suffices hgo : W pr l en rm_X0_tellRates s mi args below meth co H locs 0 0 Q (F0 mi 0 ls []) by rw [hH, hlocs] at hgo; exact hgo
  clear hH hlocs
  refine kx_const (z := 0) hx hb dX0_tellRates_0 rfl ?_
  refine lv_istore_n (lv' := [(2, .int (iI 0)), (0, .ref c), (1, .int (iI (b : Int)))]) hx hb dX0_tellRates_1 rfl hl (by decide) rfl (fun ls hl => ?_)
  have L2 : ∀ (fu : Nat) (v : Nat) (gr2 : Nat → Int), ((v : Int) ≤ no) → (∀ k : Nat, k < 6 → gr2 k = if k < v then (fun q => if b.testBit q = true then 110 else 90) k else ra k) → no.toNat - v < fu → ∀ (H : Heap) (locs : List Loc), va_P D vwCl (ckW cI cZ c c1 c2 c3 c4 c5 c6 n n1 n2 n3 pa gr2 fa ft dy er ti gr ah be no li dg nb wy) H → va_D A (ckW cI cZ c c1 c2 c3 c4 c5 c6 n n1 n2 n3 pa gr2 fa ft dy er ti gr ah be no li dg nb wy) → va_S A H0 H locs → ∀ ls : Array Slot, lv_has ls 3 [(0, .ref c), (1, .int (iI (b : Int))), (2, .int (iI (v : Int)))] → W pr l en rm_X0_tellRates s mi args below meth co H locs 0 0 Q (F0 mi 2 ls []) := by
    intro fu
    induction fu with
    | zero =>
      intro v gr2 hv hgr hfu
      exact absurd hfu (Nat.not_lt_zero _)
    | succ fu ih2 =>
      intro v gr2 hv hgr hfu H locs hP hD hS ls hl
      refine lv_iload_n hx hb dX0_tellRates_2 rfl (lv_at hl 2 rfl) ?_
      refine lv_aload_n hx hb dX0_tellRates_3 rfl (lv_at hl 0 rfl) ?_
      refine va_get (D := D) (ci := 0) (v := .ref n) (C := RX0) (T := TX0) (N := 11) hx hb hts iX0 hown hK.1 hP 0 rfl rfl 0 (by decide) (hts (.fieldLink RX0 44 "CloseClocks$Clocks" "shape" "LCloseClocks$Net;") (by decide +kernel)) (fun _ h9 => h9) rfl dX0_tellRates_4 ?_
      refine va_getN (D := D) (ci := 1) (v := .int (iI no)) (C := RX1) (T := TX1) (N := 5) hx hb hts iX1 hown hK.1 hP 7 rfl rfl 3 (by decide) (va_Nw.use rfl (hK.2.1 (RX0, 82, RX1, "nodes", "I") (List.mem_of_getElem? (i := 3) rfl))) (fun _ h9 => h9) rfl dX0_tellRates_7 ?_
      refine kx_icmp_ge (tgt := 41) hx hb (by omega) (by omega) dX0_tellRates_10 (by decide) (fun h10 => ?_) (fun h10 => ?_)
      · skip
        obtain ⟨hP, hD⟩ := kx_arr (g' := (rW ra no b)) hP hD 2 rfl (fun k hk => by rw [hgr k hk, show v = no.toNat by omega]; rfl)
        have hP : va_P D vwCl (ckW cI cZ c c1 c2 c3 c4 c5 c6 n n1 n2 n3 pa (rW ra no b) fa ft dy er ti gr ah be no li dg nb wy) H := hP
        have hD : va_D A (ckW cI cZ c c1 c2 c3 c4 c5 c6 n n1 n2 n3 pa (rW ra no b) fa ft dy er ti gr ah be no li dg nb wy) := hD
        exact hret () H locs _ _ (trivial) hP hD hS dX0_tellRates_41
      · skip
        refine lv_aload_n hx hb dX0_tellRates_13 rfl (lv_at hl 0 rfl) ?_
        refine va_get (D := D) (ci := 0) (v := .ref c2) (C := RX0) (T := TX0) (N := 11) hx hb hts iX0 hown hK.1 hP 0 rfl rfl 2 (by decide) (hts (.fieldLink RX0 15 "CloseClocks$Clocks" "rates" "[I") (by decide +kernel)) (fun _ h9 => h9) rfl dX0_tellRates_14 ?_
        refine lv_iload_n hx hb dX0_tellRates_17 rfl (lv_at hl 2 rfl) ?_
        refine lv_iload_n hx hb dX0_tellRates_18 rfl (lv_at hl 1 rfl) ?_
        refine lv_iload_n hx hb dX0_tellRates_19 rfl (lv_at hl 2 rfl) ?_
        refine kx_ishr (n := b) (w := v) hx hb (by omega) (by omega) dX0_tellRates_20 ?_
        refine kx_const (z := 1) hx hb dX0_tellRates_21 rfl ?_
        refine kx_iand1 (n := (b / 2 ^ v)) hx hb (by have := Nat.div_le_self b (2 ^ v); omega) dX0_tellRates_22 ?_
        refine kx_const (z := 1) hx hb dX0_tellRates_23 rfl ?_
        refine kx_icmp_ne (tgt := 32) hx hb (by omega) (by omega) dX0_tellRates_24 (by decide) (fun h24 => ?_) (fun h24 => ?_)
        · skip
          refine kx_bipush (z := 90) hx hb dX0_tellRates_32 (by decide) ?_
          refine kx_iast (k := v) (x := 90) hx hb hK hP hD hS 2 rfl (by omega) (by omega) (by decide) dX0_tellRates_34 (fun H locs hP hD hS => ?_)
          have hP : va_P D vwCl (ckW cI cZ c c1 c2 c3 c4 c5 c6 n n1 n2 n3 pa (va_up gr2 v 90) fa ft dy er ti gr ah be no li dg nb wy) H := hP
          have hD : va_D A (ckW cI cZ c c1 c2 c3 c4 c5 c6 n n1 n2 n3 pa (va_up gr2 v 90) fa ft dy er ti gr ah be no li dg nb wy) := hD
          refine kx_iinc (z := ((v + 1 : Nat) : Int)) (lv' := [(2, .int (iI ((v + 1 : Nat) : Int))), (0, .ref c), (1, .int (iI (b : Int)))]) hx hb dX0_tellRates_35 hl (k0 := 2) rfl (by omega) (by decide) rfl (fun ls hl => ?_)
          refine lv_goto (tgt := 2) hx hb dX0_tellRates_38 (by decide) ?_
          exact ih2 (v + 1) (va_up gr2 v 90) (by first | assumption | omega) (up_mix hgr (by show _ = if _ then _ else _; first | (rw [if_pos ((tb_iff b v).mpr (by omega))]) | (rw [if_neg (fun q => by have := (tb_iff b v).mp q; omega)]))) (by omega) H locs hP hD hS ls (lv_sub hl [1, 2, 0] rfl)
        · skip
          refine kx_bipush (z := 110) hx hb dX0_tellRates_27 (by decide) ?_
          refine lv_goto (tgt := 34) hx hb dX0_tellRates_29 (by decide) ?_
          refine kx_iast (k := v) (x := 110) hx hb hK hP hD hS 2 rfl (by omega) (by omega) (by decide) dX0_tellRates_34 (fun H locs hP hD hS => ?_)
          have hP : va_P D vwCl (ckW cI cZ c c1 c2 c3 c4 c5 c6 n n1 n2 n3 pa (va_up gr2 v 110) fa ft dy er ti gr ah be no li dg nb wy) H := hP
          have hD : va_D A (ckW cI cZ c c1 c2 c3 c4 c5 c6 n n1 n2 n3 pa (va_up gr2 v 110) fa ft dy er ti gr ah be no li dg nb wy) := hD
          refine kx_iinc (z := ((v + 1 : Nat) : Int)) (lv' := [(2, .int (iI ((v + 1 : Nat) : Int))), (0, .ref c), (1, .int (iI (b : Int)))]) hx hb dX0_tellRates_35 hl (k0 := 2) rfl (by omega) (by decide) rfl (fun ls hl => ?_)
          refine lv_goto (tgt := 2) hx hb dX0_tellRates_38 (by decide) ?_
          exact ih2 (v + 1) (va_up gr2 v 110) (by first | assumption | omega) (up_mix hgr (by show _ = if _ then _ else _; first | (rw [if_pos ((tb_iff b v).mpr (by omega))]) | (rw [if_neg (fun q => by have := (tb_iff b v).mp q; omega)]))) (by omega) H locs hP hD hS ls (lv_sub hl [1, 2, 0] rfl)
  exact L2 (no.toNat - 0 + 1) 0 ra (by first | assumption | omega) (mix_0) (Nat.lt_succ_self _) H locs hP hD hS ls (lv_sub hl [1, 2, 0] rfl)
def rm_X0_copyMotion : Room := ({ frames := 1, cells := 0, slots := 0, locals := 26 } : Room)
set_option maxHeartbeats 4000000 in
set_option maxRecDepth 100000 in
theorem c_X0_copyMotion (l : Launch) (D : va_G) (cI cZ : ClassId) (c c1 c2 c3 c4 c5 c6 f f1 f2 f3 f4 f5 f6 n : Nat) (pa ra fa ft dy er : Nat → Int) (ti gr ah be : Int) (paf raf faf ftf dyf erf : Nat → Int) (tif grf ahf bef : Int)   : kWR l yX0_copyMotion wsX0_copyMotion rm_X0_copyMotion D cI cZ [.ref c, .ref f] (cfW cI cZ c c1 c2 c3 c4 c5 c6 f f1 f2 f3 f4 f5 f6 n pa ra fa ft dy er ti gr ah be paf raf faf ftf dyf erf tif grf ahf bef) (fun u : Unit => none) (fun u : Unit => True) (fun u : Unit => cfW cI cZ c c1 c2 c3 c4 c5 c6 f f1 f2 f3 f4 f5 f6 n paf ra faf ft dy er ti gr ah be paf raf faf ftf dyf erf tif grf ahf bef) 0 0 := by
  refine kx_WRv (cc := cX0_copyMotion) (maxL := 2) (by decide) rfl (Nat.le_of_ble_eq_true rfl) ?_
  intro pr en s mi args below meth co Q A hx hb hml hown hts hK hin hA hP hD hS hret ls hl
  have hown : s.vm.findClass RX0 = some mi.cls := hown
  have iX0 : ∀ w ∈ wsX00, w ∈ wsX0_copyMotion := by decide +kernel
  have hl : lv_has ls 2 [(0, .ref c), (1, .ref f)] := hl
  generalize hH0 : s.heap = H0 at hA hP hS hret ⊢
  obtain ⟨H, hH⟩ : ∃ H : Heap, H = H0 := ⟨_, rfl⟩
  obtain ⟨locs, hlocs⟩ : ∃ locs : List Loc, locs = [] := ⟨_, rfl⟩
  have hS : va_S A H0 H locs := by rw [hH, hlocs]; exact hS
  have hP : va_P D vwCl (cfW cI cZ c c1 c2 c3 c4 c5 c6 f f1 f2 f3 f4 f5 f6 n pa ra fa ft dy er ti gr ah be paf raf faf ftf dyf erf tif grf ahf bef) H := by rw [hH]; exact hP
  suffices hgo : W pr l en rm_X0_copyMotion s mi args below meth co H locs 0 0 Q (F0 mi 0 ls []) by rw [hH, hlocs] at hgo; exact hgo
  clear hH hlocs
  refine lv_aload_n hx hb dX0_copyMotion_0 rfl (lv_at hl 1 rfl) ?_
  refine va_get (D := D) (ci := 0) (v := .ref f1) (C := RX0) (T := TX0) (N := 11) hx hb hts iX0 hown hK.1 hP 7 rfl rfl 1 (by decide) (hts (.fieldLink RX0 9 "CloseClocks$Clocks" "past" "[I") (by decide +kernel)) (fun _ h9 => h9) rfl dX0_copyMotion_1 ?_
  refine kx_const (z := 0) hx hb dX0_copyMotion_4 rfl ?_
  refine lv_aload_n hx hb dX0_copyMotion_5 rfl (lv_at hl 0 rfl) ?_
  refine va_get (D := D) (ci := 0) (v := .ref c1) (C := RX0) (T := TX0) (N := 11) hx hb hts iX0 hown hK.1 hP 0 rfl rfl 1 (by decide) (hts (.fieldLink RX0 9 "CloseClocks$Clocks" "past" "[I") (by decide +kernel)) (fun _ h9 => h9) rfl dX0_copyMotion_6 ?_
  refine kx_const (z := 0) hx hb dX0_copyMotion_9 rfl ?_
  refine lv_aload_n hx hb dX0_copyMotion_10 rfl (lv_at hl 0 rfl) ?_
  refine va_get (D := D) (ci := 0) (v := .ref c1) (C := RX0) (T := TX0) (N := 11) hx hb hts iX0 hown hK.1 hP 0 rfl rfl 1 (by decide) (hts (.fieldLink RX0 9 "CloseClocks$Clocks" "past" "[I") (by decide +kernel)) (fun _ h9 => h9) rfl dX0_copyMotion_11 ?_
  refine va_alen (v := iI 24) hx hb hK.1 hP 1 0 rfl rfl (by show Int32.ofNat 24 = iI 24; decide) dX0_copyMotion_14 ?_
  refine kx_copy (n := 24) (dp := 0) (sp := 0) hx hb (hml.trans hl.1.symm) hown (hts (.methodLink RX0 76 arraycopyName) (by decide +kernel)) (hts (.native arraycopyName) (by decide +kernel)) (hts (.static arraycopyName) (by decide +kernel)) (hts (.initialized "java/lang/System") (by decide +kernel)) hK hP hD hS 8 1 rfl rfl (by decide) (by decide) (by decide) (by decide) (by decide) (by decide) (Nat.le_of_ble_eq_true rfl) dX0_copyMotion_15 (fun H locs hP hD hS => ?_)
  have hP : va_P D vwCl (cfW cI cZ c c1 c2 c3 c4 c5 c6 f f1 f2 f3 f4 f5 f6 n (va_cpy paf pa 0 0 24) ra fa ft dy er ti gr ah be paf raf faf ftf dyf erf tif grf ahf bef) H := hP
  have hD : va_D A (cfW cI cZ c c1 c2 c3 c4 c5 c6 f f1 f2 f3 f4 f5 f6 n (va_cpy paf pa 0 0 24) ra fa ft dy er ti gr ah be paf raf faf ftf dyf erf tif grf ahf bef) := hD
  refine lv_aload_n hx hb dX0_copyMotion_18 rfl (lv_at hl 1 rfl) ?_
  refine va_get (D := D) (ci := 0) (v := .ref f3) (C := RX0) (T := TX0) (N := 11) hx hb hts iX0 hown hK.1 hP 7 rfl rfl 3 (by decide) (hts (.fieldLink RX0 18 "CloseClocks$Clocks" "fast" "[I") (by decide +kernel)) (fun _ h9 => h9) rfl dX0_copyMotion_19 ?_
  refine kx_const (z := 0) hx hb dX0_copyMotion_22 rfl ?_
  refine lv_aload_n hx hb dX0_copyMotion_23 rfl (lv_at hl 0 rfl) ?_
  refine va_get (D := D) (ci := 0) (v := .ref c3) (C := RX0) (T := TX0) (N := 11) hx hb hts iX0 hown hK.1 hP 0 rfl rfl 3 (by decide) (hts (.fieldLink RX0 18 "CloseClocks$Clocks" "fast" "[I") (by decide +kernel)) (fun _ h9 => h9) rfl dX0_copyMotion_24 ?_
  refine kx_const (z := 0) hx hb dX0_copyMotion_27 rfl ?_
  refine lv_aload_n hx hb dX0_copyMotion_28 rfl (lv_at hl 0 rfl) ?_
  refine va_get (D := D) (ci := 0) (v := .ref c3) (C := RX0) (T := TX0) (N := 11) hx hb hts iX0 hown hK.1 hP 0 rfl rfl 3 (by decide) (hts (.fieldLink RX0 18 "CloseClocks$Clocks" "fast" "[I") (by decide +kernel)) (fun _ h9 => h9) rfl dX0_copyMotion_29 ?_
  refine va_alen (v := iI 6) hx hb hK.1 hP 3 0 rfl rfl (by show Int32.ofNat 6 = iI 6; decide) dX0_copyMotion_32 ?_
  refine kx_copy (n := 6) (dp := 0) (sp := 0) hx hb (hml.trans hl.1.symm) hown (hts (.methodLink RX0 76 arraycopyName) (by decide +kernel)) (hts (.native arraycopyName) (by decide +kernel)) (hts (.static arraycopyName) (by decide +kernel)) (hts (.initialized "java/lang/System") (by decide +kernel)) hK hP hD hS 10 3 rfl rfl (by decide) (by decide) (by decide) (by decide) (by decide) (by decide) (Nat.le_of_ble_eq_true rfl) dX0_copyMotion_33 (fun H locs hP hD hS => ?_)
  have hP : va_P D vwCl (cfW cI cZ c c1 c2 c3 c4 c5 c6 f f1 f2 f3 f4 f5 f6 n (va_cpy paf pa 0 0 24) ra (va_cpy faf fa 0 0 6) ft dy er ti gr ah be paf raf faf ftf dyf erf tif grf ahf bef) H := hP
  have hD : va_D A (cfW cI cZ c c1 c2 c3 c4 c5 c6 f f1 f2 f3 f4 f5 f6 n (va_cpy paf pa 0 0 24) ra (va_cpy faf fa 0 0 6) ft dy er ti gr ah be paf raf faf ftf dyf erf tif grf ahf bef) := hD
  obtain ⟨hP, hD⟩ := kx_arr (g' := paf) hP hD 1 rfl (by intro k hk; simp only [va_cpy]; rw [if_pos (by omega)]; congr 1; omega)
  have hP : va_P D vwCl (cfW cI cZ c c1 c2 c3 c4 c5 c6 f f1 f2 f3 f4 f5 f6 n paf ra (va_cpy faf fa 0 0 6) ft dy er ti gr ah be paf raf faf ftf dyf erf tif grf ahf bef) H := hP
  have hD : va_D A (cfW cI cZ c c1 c2 c3 c4 c5 c6 f f1 f2 f3 f4 f5 f6 n paf ra (va_cpy faf fa 0 0 6) ft dy er ti gr ah be paf raf faf ftf dyf erf tif grf ahf bef) := hD
  obtain ⟨hP, hD⟩ := kx_arr (g' := faf) hP hD 3 rfl (by intro k hk; simp only [va_cpy]; rw [if_pos (by omega)]; congr 1; omega)
  have hP : va_P D vwCl (cfW cI cZ c c1 c2 c3 c4 c5 c6 f f1 f2 f3 f4 f5 f6 n paf ra faf ft dy er ti gr ah be paf raf faf ftf dyf erf tif grf ahf bef) H := hP
  have hD : va_D A (cfW cI cZ c c1 c2 c3 c4 c5 c6 f f1 f2 f3 f4 f5 f6 n paf ra faf ft dy er ti gr ah be paf raf faf ftf dyf erf tif grf ahf bef) := hD
  exact hret () H locs _ _ (trivial) hP hD hS dX0_copyMotion_36
def rm_X0_copyAll : Room := ({ frames := 2, cells := 0, slots := 0, locals := 47 } : Room)
set_option maxHeartbeats 4000000 in
set_option maxRecDepth 100000 in
theorem c_X0_copyAll (l : Launch) (D : va_G) (cI cZ : ClassId) (c c1 c2 c3 c4 c5 c6 f f1 f2 f3 f4 f5 f6 n : Nat) (pa ra fa ft dy er : Nat → Int) (ti gr ah be : Int) (paf raf faf ftf dyf erf : Nat → Int) (tif grf ahf bef : Int)   : kWR l yX0_copyAll wsX0_copyAll rm_X0_copyAll D cI cZ [.ref c, .ref f] (cfW cI cZ c c1 c2 c3 c4 c5 c6 f f1 f2 f3 f4 f5 f6 n pa ra fa ft dy er ti gr ah be paf raf faf ftf dyf erf tif grf ahf bef) (fun u : Unit => none) (fun u : Unit => True) (fun u : Unit => cfW cI cZ c c1 c2 c3 c4 c5 c6 f f1 f2 f3 f4 f5 f6 n paf raf faf ftf dyf erf tif grf ah be paf raf faf ftf dyf erf tif grf ahf bef) 0 0 := by
  refine kx_WRv (cc := cX0_copyAll) (maxL := 2) (by decide) rfl (Nat.le_of_ble_eq_true rfl) ?_
  intro pr en s mi args below meth co Q A hx hb hml hown hts hK hin hA hP hD hS hret ls hl
  have hown : s.vm.findClass RX0 = some mi.cls := hown
  have iX0 : ∀ w ∈ wsX00, w ∈ wsX0_copyAll := by decide +kernel
  have hl : lv_has ls 2 [(0, .ref c), (1, .ref f)] := hl
  generalize hH0 : s.heap = H0 at hA hP hS hret ⊢
  obtain ⟨H, hH⟩ : ∃ H : Heap, H = H0 := ⟨_, rfl⟩
  obtain ⟨locs, hlocs⟩ : ∃ locs : List Loc, locs = [] := ⟨_, rfl⟩
  have hS : va_S A H0 H locs := by rw [hH, hlocs]; exact hS
  have hP : va_P D vwCl (cfW cI cZ c c1 c2 c3 c4 c5 c6 f f1 f2 f3 f4 f5 f6 n pa ra fa ft dy er ti gr ah be paf raf faf ftf dyf erf tif grf ahf bef) H := by rw [hH]; exact hP
  suffices hgo : W pr l en rm_X0_copyAll s mi args below meth co H locs 0 0 Q (F0 mi 0 ls []) by rw [hH, hlocs] at hgo; exact hgo
  clear hH hlocs
  refine lv_aload_n hx hb dX0_copyAll_0 rfl (lv_at hl 0 rfl) ?_
  refine lv_aload_n hx hb dX0_copyAll_1 rfl (lv_at hl 1 rfl) ?_
  refine kx_cVW (As := [.ref f]) (rest := []) (wr := []) (q0 := 0) (ci := 0) ⟨hx, hb, hml, hown, hts⟩ (c_X0_copyMotion l D cI cZ c c1 c2 c3 c4 c5 c6 f f1 f2 f3 f4 f5 f6 n pa ra fa ft dy er ti gr ah be paf raf faf ftf dyf erf tif grf ahf bef ) (cwV 1 hts gX0_copyAll_X0_copyMotion rfl rfl rfl (by decide +kernel) ⟨Nat.le_of_ble_eq_true rfl, Nat.le_of_ble_eq_true rfl⟩) hK hP hD hS hA [0, 1, 2, 3, 4, 5, 6, 7, 8, 9, 10, 11, 12, 13] [] rfl rfl (by decide) (by decide) (by decide) rfl rfl rfl hl.1 rfl (Nat.le_of_ble_eq_true rfl) dX0_copyAll_2 ⟨Nat.le_of_ble_eq_true rfl, Nat.le_of_ble_eq_true rfl⟩ (fun u H locs hq hP hD hS => ?_)
  have hP : va_P D vwCl (cfW cI cZ c c1 c2 c3 c4 c5 c6 f f1 f2 f3 f4 f5 f6 n paf ra faf ft dy er ti gr ah be paf raf faf ftf dyf erf tif grf ahf bef) H := hP.sub [0, 1, 2, 3, 4, 5, 6, 7, 8, 9, 10, 11, 12, 13] rfl
  have hD : va_D A (cfW cI cZ c c1 c2 c3 c4 c5 c6 f f1 f2 f3 f4 f5 f6 n paf ra faf ft dy er ti gr ah be paf raf faf ftf dyf erf tif grf ahf bef) := hD.sub [0, 1, 2, 3, 4, 5, 6, 7, 8, 9, 10, 11, 12, 13] (by decide) rfl
  refine W.eq (g2 := F0 mi 5 ls []) rfl ?_
  refine lv_aload_n hx hb dX0_copyAll_5 rfl (lv_at hl 1 rfl) ?_
  refine va_get (D := D) (ci := 0) (v := .ref f2) (C := RX0) (T := TX0) (N := 11) hx hb hts iX0 hown hK.1 hP 7 rfl rfl 2 (by decide) (hts (.fieldLink RX0 15 "CloseClocks$Clocks" "rates" "[I") (by decide +kernel)) (fun _ h9 => h9) rfl dX0_copyAll_6 ?_
  refine kx_const (z := 0) hx hb dX0_copyAll_9 rfl ?_
  refine lv_aload_n hx hb dX0_copyAll_10 rfl (lv_at hl 0 rfl) ?_
  refine va_get (D := D) (ci := 0) (v := .ref c2) (C := RX0) (T := TX0) (N := 11) hx hb hts iX0 hown hK.1 hP 0 rfl rfl 2 (by decide) (hts (.fieldLink RX0 15 "CloseClocks$Clocks" "rates" "[I") (by decide +kernel)) (fun _ h9 => h9) rfl dX0_copyAll_11 ?_
  refine kx_const (z := 0) hx hb dX0_copyAll_14 rfl ?_
  refine lv_aload_n hx hb dX0_copyAll_15 rfl (lv_at hl 0 rfl) ?_
  refine va_get (D := D) (ci := 0) (v := .ref c2) (C := RX0) (T := TX0) (N := 11) hx hb hts iX0 hown hK.1 hP 0 rfl rfl 2 (by decide) (hts (.fieldLink RX0 15 "CloseClocks$Clocks" "rates" "[I") (by decide +kernel)) (fun _ h9 => h9) rfl dX0_copyAll_16 ?_
  refine va_alen (v := iI 6) hx hb hK.1 hP 2 0 rfl rfl (by show Int32.ofNat 6 = iI 6; decide) dX0_copyAll_19 ?_
  refine kx_copy (n := 6) (dp := 0) (sp := 0) hx hb (hml.trans hl.1.symm) hown (hts (.methodLink RX0 76 arraycopyName) (by decide +kernel)) (hts (.native arraycopyName) (by decide +kernel)) (hts (.static arraycopyName) (by decide +kernel)) (hts (.initialized "java/lang/System") (by decide +kernel)) hK hP hD hS 9 2 rfl rfl (by decide) (by decide) (by decide) (by decide) (by decide) (by decide) (Nat.le_of_ble_eq_true rfl) dX0_copyAll_20 (fun H locs hP hD hS => ?_)
  have hP : va_P D vwCl (cfW cI cZ c c1 c2 c3 c4 c5 c6 f f1 f2 f3 f4 f5 f6 n paf (va_cpy raf ra 0 0 6) faf ft dy er ti gr ah be paf raf faf ftf dyf erf tif grf ahf bef) H := hP
  have hD : va_D A (cfW cI cZ c c1 c2 c3 c4 c5 c6 f f1 f2 f3 f4 f5 f6 n paf (va_cpy raf ra 0 0 6) faf ft dy er ti gr ah be paf raf faf ftf dyf erf tif grf ahf bef) := hD
  refine lv_aload_n hx hb dX0_copyAll_23 rfl (lv_at hl 1 rfl) ?_
  refine va_get (D := D) (ci := 0) (v := .ref f4) (C := RX0) (T := TX0) (N := 11) hx hb hts iX0 hown hK.1 hP 7 rfl rfl 4 (by decide) (hts (.fieldLink RX0 21 "CloseClocks$Clocks" "fastTicks" "[I") (by decide +kernel)) (fun _ h9 => h9) rfl dX0_copyAll_24 ?_
  refine kx_const (z := 0) hx hb dX0_copyAll_27 rfl ?_
  refine lv_aload_n hx hb dX0_copyAll_28 rfl (lv_at hl 0 rfl) ?_
  refine va_get (D := D) (ci := 0) (v := .ref c4) (C := RX0) (T := TX0) (N := 11) hx hb hts iX0 hown hK.1 hP 0 rfl rfl 4 (by decide) (hts (.fieldLink RX0 21 "CloseClocks$Clocks" "fastTicks" "[I") (by decide +kernel)) (fun _ h9 => h9) rfl dX0_copyAll_29 ?_
  refine kx_const (z := 0) hx hb dX0_copyAll_32 rfl ?_
  refine lv_aload_n hx hb dX0_copyAll_33 rfl (lv_at hl 0 rfl) ?_
  refine va_get (D := D) (ci := 0) (v := .ref c4) (C := RX0) (T := TX0) (N := 11) hx hb hts iX0 hown hK.1 hP 0 rfl rfl 4 (by decide) (hts (.fieldLink RX0 21 "CloseClocks$Clocks" "fastTicks" "[I") (by decide +kernel)) (fun _ h9 => h9) rfl dX0_copyAll_34 ?_
  refine va_alen (v := iI 6) hx hb hK.1 hP 4 0 rfl rfl (by show Int32.ofNat 6 = iI 6; decide) dX0_copyAll_37 ?_
  refine kx_copy (n := 6) (dp := 0) (sp := 0) hx hb (hml.trans hl.1.symm) hown (hts (.methodLink RX0 76 arraycopyName) (by decide +kernel)) (hts (.native arraycopyName) (by decide +kernel)) (hts (.static arraycopyName) (by decide +kernel)) (hts (.initialized "java/lang/System") (by decide +kernel)) hK hP hD hS 11 4 rfl rfl (by decide) (by decide) (by decide) (by decide) (by decide) (by decide) (Nat.le_of_ble_eq_true rfl) dX0_copyAll_38 (fun H locs hP hD hS => ?_)
  have hP : va_P D vwCl (cfW cI cZ c c1 c2 c3 c4 c5 c6 f f1 f2 f3 f4 f5 f6 n paf (va_cpy raf ra 0 0 6) faf (va_cpy ftf ft 0 0 6) dy er ti gr ah be paf raf faf ftf dyf erf tif grf ahf bef) H := hP
  have hD : va_D A (cfW cI cZ c c1 c2 c3 c4 c5 c6 f f1 f2 f3 f4 f5 f6 n paf (va_cpy raf ra 0 0 6) faf (va_cpy ftf ft 0 0 6) dy er ti gr ah be paf raf faf ftf dyf erf tif grf ahf bef) := hD
  refine lv_aload_n hx hb dX0_copyAll_41 rfl (lv_at hl 1 rfl) ?_
  refine va_get (D := D) (ci := 0) (v := .ref f5) (C := RX0) (T := TX0) (N := 11) hx hb hts iX0 hown hK.1 hP 7 rfl rfl 5 (by decide) (hts (.fieldLink RX0 24 "CloseClocks$Clocks" "delays" "[I") (by decide +kernel)) (fun _ h9 => h9) rfl dX0_copyAll_42 ?_
  refine kx_const (z := 0) hx hb dX0_copyAll_45 rfl ?_
  refine lv_aload_n hx hb dX0_copyAll_46 rfl (lv_at hl 0 rfl) ?_
  refine va_get (D := D) (ci := 0) (v := .ref c5) (C := RX0) (T := TX0) (N := 11) hx hb hts iX0 hown hK.1 hP 0 rfl rfl 5 (by decide) (hts (.fieldLink RX0 24 "CloseClocks$Clocks" "delays" "[I") (by decide +kernel)) (fun _ h9 => h9) rfl dX0_copyAll_47 ?_
  refine kx_const (z := 0) hx hb dX0_copyAll_50 rfl ?_
  refine lv_aload_n hx hb dX0_copyAll_51 rfl (lv_at hl 0 rfl) ?_
  refine va_get (D := D) (ci := 0) (v := .ref c5) (C := RX0) (T := TX0) (N := 11) hx hb hts iX0 hown hK.1 hP 0 rfl rfl 5 (by decide) (hts (.fieldLink RX0 24 "CloseClocks$Clocks" "delays" "[I") (by decide +kernel)) (fun _ h9 => h9) rfl dX0_copyAll_52 ?_
  refine va_alen (v := iI 36) hx hb hK.1 hP 5 0 rfl rfl (by show Int32.ofNat 36 = iI 36; decide) dX0_copyAll_55 ?_
  refine kx_copy (n := 36) (dp := 0) (sp := 0) hx hb (hml.trans hl.1.symm) hown (hts (.methodLink RX0 76 arraycopyName) (by decide +kernel)) (hts (.native arraycopyName) (by decide +kernel)) (hts (.static arraycopyName) (by decide +kernel)) (hts (.initialized "java/lang/System") (by decide +kernel)) hK hP hD hS 12 5 rfl rfl (by decide) (by decide) (by decide) (by decide) (by decide) (by decide) (Nat.le_of_ble_eq_true rfl) dX0_copyAll_56 (fun H locs hP hD hS => ?_)
  have hP : va_P D vwCl (cfW cI cZ c c1 c2 c3 c4 c5 c6 f f1 f2 f3 f4 f5 f6 n paf (va_cpy raf ra 0 0 6) faf (va_cpy ftf ft 0 0 6) (va_cpy dyf dy 0 0 36) er ti gr ah be paf raf faf ftf dyf erf tif grf ahf bef) H := hP
  have hD : va_D A (cfW cI cZ c c1 c2 c3 c4 c5 c6 f f1 f2 f3 f4 f5 f6 n paf (va_cpy raf ra 0 0 6) faf (va_cpy ftf ft 0 0 6) (va_cpy dyf dy 0 0 36) er ti gr ah be paf raf faf ftf dyf erf tif grf ahf bef) := hD
  refine lv_aload_n hx hb dX0_copyAll_59 rfl (lv_at hl 1 rfl) ?_
  refine va_get (D := D) (ci := 0) (v := .ref f6) (C := RX0) (T := TX0) (N := 11) hx hb hts iX0 hown hK.1 hP 7 rfl rfl 6 (by decide) (hts (.fieldLink RX0 27 "CloseClocks$Clocks" "errors" "[I") (by decide +kernel)) (fun _ h9 => h9) rfl dX0_copyAll_60 ?_
  refine kx_const (z := 0) hx hb dX0_copyAll_63 rfl ?_
  refine lv_aload_n hx hb dX0_copyAll_64 rfl (lv_at hl 0 rfl) ?_
  refine va_get (D := D) (ci := 0) (v := .ref c6) (C := RX0) (T := TX0) (N := 11) hx hb hts iX0 hown hK.1 hP 0 rfl rfl 6 (by decide) (hts (.fieldLink RX0 27 "CloseClocks$Clocks" "errors" "[I") (by decide +kernel)) (fun _ h9 => h9) rfl dX0_copyAll_65 ?_
  refine kx_const (z := 0) hx hb dX0_copyAll_68 rfl ?_
  refine lv_aload_n hx hb dX0_copyAll_69 rfl (lv_at hl 0 rfl) ?_
  refine va_get (D := D) (ci := 0) (v := .ref c6) (C := RX0) (T := TX0) (N := 11) hx hb hts iX0 hown hK.1 hP 0 rfl rfl 6 (by decide) (hts (.fieldLink RX0 27 "CloseClocks$Clocks" "errors" "[I") (by decide +kernel)) (fun _ h9 => h9) rfl dX0_copyAll_70 ?_
  refine va_alen (v := iI 36) hx hb hK.1 hP 6 0 rfl rfl (by show Int32.ofNat 36 = iI 36; decide) dX0_copyAll_73 ?_
  refine kx_copy (n := 36) (dp := 0) (sp := 0) hx hb (hml.trans hl.1.symm) hown (hts (.methodLink RX0 76 arraycopyName) (by decide +kernel)) (hts (.native arraycopyName) (by decide +kernel)) (hts (.static arraycopyName) (by decide +kernel)) (hts (.initialized "java/lang/System") (by decide +kernel)) hK hP hD hS 13 6 rfl rfl (by decide) (by decide) (by decide) (by decide) (by decide) (by decide) (Nat.le_of_ble_eq_true rfl) dX0_copyAll_74 (fun H locs hP hD hS => ?_)
  have hP : va_P D vwCl (cfW cI cZ c c1 c2 c3 c4 c5 c6 f f1 f2 f3 f4 f5 f6 n paf (va_cpy raf ra 0 0 6) faf (va_cpy ftf ft 0 0 6) (va_cpy dyf dy 0 0 36) (va_cpy erf er 0 0 36) ti gr ah be paf raf faf ftf dyf erf tif grf ahf bef) H := hP
  have hD : va_D A (cfW cI cZ c c1 c2 c3 c4 c5 c6 f f1 f2 f3 f4 f5 f6 n paf (va_cpy raf ra 0 0 6) faf (va_cpy ftf ft 0 0 6) (va_cpy dyf dy 0 0 36) (va_cpy erf er 0 0 36) ti gr ah be paf raf faf ftf dyf erf tif grf ahf bef) := hD
  refine lv_aload_n hx hb dX0_copyAll_77 rfl (lv_at hl 0 rfl) ?_
  refine lv_aload_n hx hb dX0_copyAll_78 rfl (lv_at hl 1 rfl) ?_
  refine va_get (D := D) (ci := 0) (v := .int (iI tif)) (C := RX0) (T := TX0) (N := 11) hx hb hts iX0 hown hK.1 hP 7 rfl rfl 7 (by decide) (hts (.fieldLink RX0 30 "CloseClocks$Clocks" "ticks" "I") (by decide +kernel)) (fun _ h9 => h9) rfl dX0_copyAll_79 ?_
  refine va_put (D := D) (ci := 0) (v := .int (iI tif)) (ty := .int) (C := RX0) (T := TX0) (N := 11) hx hb hts iX0 tyX0 tyX0_ok nmX0 hown hK.1 hP hD hS 0 rfl rfl 7 (by decide) (hts (.fieldLink RX0 30 "CloseClocks$Clocks" "ticks" "I") (by decide +kernel)) (fun _ h9 => h9) rfl (by decide +kernel) rfl rfl (Nat.le_of_ble_eq_true rfl) dX0_copyAll_82 (fun H locs hP hD hS => ?_)
  have hP : va_P D vwCl (cfW cI cZ c c1 c2 c3 c4 c5 c6 f f1 f2 f3 f4 f5 f6 n paf (va_cpy raf ra 0 0 6) faf (va_cpy ftf ft 0 0 6) (va_cpy dyf dy 0 0 36) (va_cpy erf er 0 0 36) tif gr ah be paf raf faf ftf dyf erf tif grf ahf bef) H := hP
  have hD : va_D A (cfW cI cZ c c1 c2 c3 c4 c5 c6 f f1 f2 f3 f4 f5 f6 n paf (va_cpy raf ra 0 0 6) faf (va_cpy ftf ft 0 0 6) (va_cpy dyf dy 0 0 36) (va_cpy erf er 0 0 36) tif gr ah be paf raf faf ftf dyf erf tif grf ahf bef) := hD
  refine lv_aload_n hx hb dX0_copyAll_85 rfl (lv_at hl 0 rfl) ?_
  refine lv_aload_n hx hb dX0_copyAll_86 rfl (lv_at hl 1 rfl) ?_
  refine va_get (D := D) (ci := 0) (v := .int (iI grf)) (C := RX0) (T := TX0) (N := 11) hx hb hts iX0 hown hK.1 hP 7 rfl rfl 8 (by decide) (hts (.fieldLink RX0 34 "CloseClocks$Clocks" "greatestLocal" "I") (by decide +kernel)) (fun _ h9 => h9) rfl dX0_copyAll_87 ?_
  refine va_put (D := D) (ci := 0) (v := .int (iI grf)) (ty := .int) (C := RX0) (T := TX0) (N := 11) hx hb hts iX0 tyX0 tyX0_ok nmX0 hown hK.1 hP hD hS 0 rfl rfl 8 (by decide) (hts (.fieldLink RX0 34 "CloseClocks$Clocks" "greatestLocal" "I") (by decide +kernel)) (fun _ h9 => h9) rfl (by decide +kernel) rfl rfl (Nat.le_of_ble_eq_true rfl) dX0_copyAll_90 (fun H locs hP hD hS => ?_)
  have hP : va_P D vwCl (cfW cI cZ c c1 c2 c3 c4 c5 c6 f f1 f2 f3 f4 f5 f6 n paf (va_cpy raf ra 0 0 6) faf (va_cpy ftf ft 0 0 6) (va_cpy dyf dy 0 0 36) (va_cpy erf er 0 0 36) tif grf ah be paf raf faf ftf dyf erf tif grf ahf bef) H := hP
  have hD : va_D A (cfW cI cZ c c1 c2 c3 c4 c5 c6 f f1 f2 f3 f4 f5 f6 n paf (va_cpy raf ra 0 0 6) faf (va_cpy ftf ft 0 0 6) (va_cpy dyf dy 0 0 36) (va_cpy erf er 0 0 36) tif grf ah be paf raf faf ftf dyf erf tif grf ahf bef) := hD
  obtain ⟨hP, hD⟩ := kx_arr (g' := raf) hP hD 2 rfl (by intro k hk; simp only [va_cpy]; rw [if_pos (by omega)]; congr 1; omega)
  have hP : va_P D vwCl (cfW cI cZ c c1 c2 c3 c4 c5 c6 f f1 f2 f3 f4 f5 f6 n paf raf faf (va_cpy ftf ft 0 0 6) (va_cpy dyf dy 0 0 36) (va_cpy erf er 0 0 36) tif grf ah be paf raf faf ftf dyf erf tif grf ahf bef) H := hP
  have hD : va_D A (cfW cI cZ c c1 c2 c3 c4 c5 c6 f f1 f2 f3 f4 f5 f6 n paf raf faf (va_cpy ftf ft 0 0 6) (va_cpy dyf dy 0 0 36) (va_cpy erf er 0 0 36) tif grf ah be paf raf faf ftf dyf erf tif grf ahf bef) := hD
  obtain ⟨hP, hD⟩ := kx_arr (g' := ftf) hP hD 4 rfl (by intro k hk; simp only [va_cpy]; rw [if_pos (by omega)]; congr 1; omega)
  have hP : va_P D vwCl (cfW cI cZ c c1 c2 c3 c4 c5 c6 f f1 f2 f3 f4 f5 f6 n paf raf faf ftf (va_cpy dyf dy 0 0 36) (va_cpy erf er 0 0 36) tif grf ah be paf raf faf ftf dyf erf tif grf ahf bef) H := hP
  have hD : va_D A (cfW cI cZ c c1 c2 c3 c4 c5 c6 f f1 f2 f3 f4 f5 f6 n paf raf faf ftf (va_cpy dyf dy 0 0 36) (va_cpy erf er 0 0 36) tif grf ah be paf raf faf ftf dyf erf tif grf ahf bef) := hD
  obtain ⟨hP, hD⟩ := kx_arr (g' := dyf) hP hD 5 rfl (by intro k hk; simp only [va_cpy]; rw [if_pos (by omega)]; congr 1; omega)
  have hP : va_P D vwCl (cfW cI cZ c c1 c2 c3 c4 c5 c6 f f1 f2 f3 f4 f5 f6 n paf raf faf ftf dyf (va_cpy erf er 0 0 36) tif grf ah be paf raf faf ftf dyf erf tif grf ahf bef) H := hP
  have hD : va_D A (cfW cI cZ c c1 c2 c3 c4 c5 c6 f f1 f2 f3 f4 f5 f6 n paf raf faf ftf dyf (va_cpy erf er 0 0 36) tif grf ah be paf raf faf ftf dyf erf tif grf ahf bef) := hD
  obtain ⟨hP, hD⟩ := kx_arr (g' := erf) hP hD 6 rfl (by intro k hk; simp only [va_cpy]; rw [if_pos (by omega)]; congr 1; omega)
  have hP : va_P D vwCl (cfW cI cZ c c1 c2 c3 c4 c5 c6 f f1 f2 f3 f4 f5 f6 n paf raf faf ftf dyf erf tif grf ah be paf raf faf ftf dyf erf tif grf ahf bef) H := hP
  have hD : va_D A (cfW cI cZ c c1 c2 c3 c4 c5 c6 f f1 f2 f3 f4 f5 f6 n paf raf faf ftf dyf erf tif grf ah be paf raf faf ftf dyf erf tif grf ahf bef) := hD
  exact hret () H locs _ _ (trivial) hP hD hS dX0_copyAll_93
