def rm_X4_within : Room := ({ frames := 0, cells := 0, slots := 0, locals := 0 } : Room)
set_option maxHeartbeats 4000000 in
set_option maxRecDepth 100000 in
theorem c_X4_within (l : Launch) (D : va_G) (cI cZ : ClassId)  (a b d : Int) (ha : -2147483648 ≤ a ∧ a < 2147483648) (hb2 : -2147483648 ≤ b ∧ b < 2147483648) (hd : -2147483648 ≤ d ∧ d < 2147483648) : kRO l yX4_within wsX4_within rm_X4_within D cI cZ [.int (iI a), .int (iI b), .int (iI d)] ([]) (some (.int (iI (if b ≤ a ∧ a ≤ d then 1 else 0)))) := by
  refine kx_ROz (cc := cX4_within) (maxL := 3) (by decide) rfl (Nat.le_of_ble_eq_true rfl) ?_
  intro pr en s mi args below meth co Q hx hb hml hown hts hK hP hret ls hl
  have hown : s.vm.findClass RX4 = some mi.cls := hown
  have hl : lv_has ls 3 [(0, .int (iI a)), (1, .int (iI b)), (2, .int (iI d))] := hl
  refine lv_iload_n hx hb dX4_within_0 rfl (lv_at hl 0 rfl) ?_
  refine lv_iload_n hx hb dX4_within_1 rfl (lv_at hl 1 rfl) ?_
  refine kx_icmp_lt (tgt := 14) hx hb (by omega) (by omega) dX4_within_2 (by decide) (fun h2 => ?_) (fun h2 => ?_)
  · skip
    refine kx_const (z := 0) hx hb dX4_within_14 rfl ?_
    exact hret 0 _ _ (Or.inr ⟨rfl, by first | omega | simp_all⟩) dX4_within_15
  · skip
    refine lv_iload_n hx hb dX4_within_5 rfl (lv_at hl 0 rfl) ?_
    refine lv_iload_n hx hb dX4_within_6 rfl (lv_at hl 2 rfl) ?_
    refine kx_icmp_gt (tgt := 14) hx hb (by omega) (by omega) dX4_within_7 (by decide) (fun h7 => ?_) (fun h7 => ?_)
    · skip
      refine kx_const (z := 0) hx hb dX4_within_14 rfl ?_
      exact hret 0 _ _ (Or.inr ⟨rfl, by first | omega | simp_all⟩) dX4_within_15
    · skip
      refine kx_const (z := 1) hx hb dX4_within_10 rfl ?_
      refine lv_goto (tgt := 15) hx hb dX4_within_11 (by decide) ?_
      exact hret 1 _ _ (Or.inl ⟨rfl, by first | omega | simp_all | (refine ⟨?_, ?_⟩ <;> omega)⟩) dX4_within_15
def rm_X4_isNode : Room := ({ frames := 1, cells := 0, slots := 0, locals := 22 } : Room)
set_option maxHeartbeats 4000000 in
set_option maxRecDepth 100000 in
theorem c_X4_isNode (l : Launch) (D : va_G) (cI cZ : ClassId) (h m1 m4 m5 m6 m7 m8 m9 m21 m22 m23 m24 m25 m26 m30 m31 m32 m33 m34 m35 : Nat) (pl nd lk st bo ti te nr ml nn nl du nO nT wm wb ik kt kl : Int) (hh : Int64) (pg dl er ra ck fa ft nw tu tc tr tf tt kc kr ke kd kf kg : Nat → Int) (z : Int) (hnd : 0 ≤ nd ∧ nd ≤ 6) (hz : -2147483648 ≤ z ∧ z < 2147483648) : kRO l yX4_isNode wsX4_isNode rm_X4_isNode D cI cZ [.ref h, .int (iI z)] (mdW cI cZ h m1 m4 m5 m6 m7 m8 m9 m21 m22 m23 m24 m25 m26 m30 m31 m32 m33 m34 m35 pl nd lk st bo ti te nr ml nn nl du nO nT wm wb ik kt kl hh pg dl er ra ck fa ft nw tu tc tr tf tt kc kr ke kd kf kg) (some (.int (iI (if 0 ≤ z ∧ z ≤ (nd - 1) then 1 else 0)))) := by
  refine kx_ROz (cc := cX4_isNode) (maxL := 2) (by decide) rfl (Nat.le_of_ble_eq_true rfl) ?_
  intro pr en s mi args below meth co Q hx hb hml hown hts hK hP hret ls hl
  have hown : s.vm.findClass RX4 = some mi.cls := hown
  have iX4 : ∀ w ∈ wsX40, w ∈ wsX4_isNode := by decide +kernel
  have hl : lv_has ls 2 [(0, .ref h), (1, .int (iI z))] := hl
  refine lv_iload_n hx hb dX4_isNode_0 rfl (lv_at hl 1 rfl) ?_
  refine kx_const (z := 0) hx hb dX4_isNode_1 rfl ?_
  refine lv_aload_n hx hb dX4_isNode_2 rfl (lv_at hl 0 rfl) ?_
  refine va_get (D := D) (ci := 4) (v := .int (iI nd)) (C := RX4) (T := TX4) (N := 39) hx hb hts iX4 hown hK.1 hP 0 rfl rfl 2 (by decide) (hts (.fieldLink RX4 112 "CloseClocksModel" "nodes" "I") (by decide +kernel)) (fun _ h9 => h9) rfl dX4_isNode_3 ?_
  refine kx_const (z := 1) hx hb dX4_isNode_6 rfl ?_
  refine kx_isub hx hb dX4_isNode_7 ?_
  refine kx_cS (As := [.int (iI z), .int (iI 0), .int (iI (nd - 1))]) (rest := []) (st1 := [.int (iI (if (0 ≤ z ∧ z ≤ (nd - 1)) then 1 else 0))]) ⟨hx, hb, hml, hown, hts⟩ (c_X4_within l D cI cZ z 0 (nd - 1) (by first | assumption | omega) (by first | assumption | omega) (by first | assumption | omega)) (va_cwS 3 hts gX4_isNode_X4_within rfl rfl rfl (by decide +kernel) ⟨Nat.le_of_ble_eq_true rfl, Nat.le_of_ble_eq_true rfl⟩) hK (hP.sub (ws' := []) [] rfl) rfl hl.1 rfl (Nat.le_of_ble_eq_true rfl) dX4_isNode_8 ⟨Nat.zero_le _, Nat.zero_le _⟩ rfl ?_
  by_cases hz9 : 0 ≤ z ∧ z ≤ (nd - 1)
  · rw [if_pos hz9]; exact hret 1 _ _ (Or.inl ⟨rfl, hz9⟩) dX4_isNode_11
  · rw [if_neg hz9]; exact hret 0 _ _ (Or.inr ⟨rfl, hz9⟩) dX4_isNode_11
def rm_X4_areBeside : Room := ({ frames := 2, cells := 0, slots := 0, locals := 43 } : Room)
set_option maxHeartbeats 4000000 in
set_option maxRecDepth 100000 in
theorem c_X4_areBeside (l : Launch) (D : va_G) (cI cZ : ClassId) (h m1 m4 m5 m6 m7 m8 m9 m21 m22 m23 m24 m25 m26 m30 m31 m32 m33 m34 m35 : Nat) (pl nd lk st bo ti te nr ml nn nl du nO nT wm wb ik kt kl : Int) (hh : Int64) (pg dl er ra ck fa ft nw tu tc tr tf tt kc kr ke kd kf kg : Nat → Int) (z w : Int) (hnd : 0 ≤ nd ∧ nd ≤ 6) (hdl : ∀ k : Nat, k < 36 → dl k = -100000001 ∨ (0 ≤ dl k ∧ dl k ≤ 3)) (hz : -2147483648 ≤ z ∧ z < 2147483648) (hw : -2147483648 ≤ w ∧ w < 2147483648) : kRO l yX4_areBeside wsX4_areBeside rm_X4_areBeside D cI cZ [.ref h, .int (iI z), .int (iI w)] (mdW cI cZ h m1 m4 m5 m6 m7 m8 m9 m21 m22 m23 m24 m25 m26 m30 m31 m32 m33 m34 m35 pl nd lk st bo ti te nr ml nn nl du nO nT wm wb ik kt kl hh pg dl er ra ck fa ft nw tu tc tr tf tt kc kr ke kd kf kg) (some (.int (iI (if mB dl nd z w = true then 1 else 0)))) := by
  refine kx_ROz (cc := cX4_areBeside) (maxL := 3) (by decide) rfl (Nat.le_of_ble_eq_true rfl) ?_
  intro pr en s mi args below meth co Q hx hb hml hown hts hK hP hret ls hl
  have hown : s.vm.findClass RX4 = some mi.cls := hown
  have iX4 : ∀ w ∈ wsX40, w ∈ wsX4_areBeside := by decide +kernel
  have hl : lv_has ls 3 [(0, .ref h), (1, .int (iI z)), (2, .int (iI w))] := hl
  refine lv_aload_n hx hb dX4_areBeside_0 rfl (lv_at hl 0 rfl) ?_
  refine lv_iload_n hx hb dX4_areBeside_1 rfl (lv_at hl 1 rfl) ?_
  refine kx_cV (As := [.int (iI z)]) (rest := []) (st1 := [.int (iI (if (0 ≤ z ∧ z ≤ (nd - 1)) then 1 else 0))]) (q0 := 0) (ci := 4) ⟨hx, hb, hml, hown, hts⟩ (c_X4_isNode l D cI cZ h m1 m4 m5 m6 m7 m8 m9 m21 m22 m23 m24 m25 m26 m30 m31 m32 m33 m34 m35 pl nd lk st bo ti te nr ml nn nl du nO nT wm wb ik kt kl hh pg dl er ra ck fa ft nw tu tc tr tf tt kc kr ke kd kf kg z (by first | assumption | omega) (by first | assumption | omega)) (cwV 1 hts gX4_areBeside_X4_isNode rfl rfl rfl (by decide +kernel) ⟨Nat.le_of_ble_eq_true rfl, Nat.le_of_ble_eq_true rfl⟩) hK hP rfl rfl rfl hl.1 rfl (Nat.le_of_ble_eq_true rfl) dX4_areBeside_2 ⟨Nat.zero_le _, Nat.zero_le _⟩ rfl ?_
  refine kx_if_eqB (tgt := 41) hx hb dX4_areBeside_5 (by decide) (fun h5 => ?_) (fun h5 => ?_)
  · skip
    refine kx_const (z := 0) hx hb dX4_areBeside_41 rfl ?_
    exact hret 0 _ _ (Or.inr ⟨rfl, by rw [mB_iff]; rintro ⟨q1, q2, q3, q4⟩; first | exact h5 q1 | exact h13 q2 | exact q3 h18 | exact q4 h34⟩) dX4_areBeside_42
  · skip
    refine lv_aload_n hx hb dX4_areBeside_8 rfl (lv_at hl 0 rfl) ?_
    refine lv_iload_n hx hb dX4_areBeside_9 rfl (lv_at hl 2 rfl) ?_
    refine kx_cV (As := [.int (iI w)]) (rest := []) (st1 := [.int (iI (if (0 ≤ w ∧ w ≤ (nd - 1)) then 1 else 0))]) (q0 := 0) (ci := 4) ⟨hx, hb, hml, hown, hts⟩ (c_X4_isNode l D cI cZ h m1 m4 m5 m6 m7 m8 m9 m21 m22 m23 m24 m25 m26 m30 m31 m32 m33 m34 m35 pl nd lk st bo ti te nr ml nn nl du nO nT wm wb ik kt kl hh pg dl er ra ck fa ft nw tu tc tr tf tt kc kr ke kd kf kg w (by first | assumption | omega) (by first | assumption | omega)) (cwV 1 hts gX4_areBeside_X4_isNode rfl rfl rfl (by decide +kernel) ⟨Nat.le_of_ble_eq_true rfl, Nat.le_of_ble_eq_true rfl⟩) hK hP rfl rfl rfl hl.1 rfl (Nat.le_of_ble_eq_true rfl) dX4_areBeside_10 ⟨Nat.zero_le _, Nat.zero_le _⟩ rfl ?_
    refine kx_if_eqB (tgt := 41) hx hb dX4_areBeside_13 (by decide) (fun h13 => ?_) (fun h13 => ?_)
    · skip
      refine kx_const (z := 0) hx hb dX4_areBeside_41 rfl ?_
      exact hret 0 _ _ (Or.inr ⟨rfl, by rw [mB_iff]; rintro ⟨q1, q2, q3, q4⟩; first | exact h5 q1 | exact h13 q2 | exact q3 h18 | exact q4 h34⟩) dX4_areBeside_42
    · skip
      refine lv_iload_n hx hb dX4_areBeside_16 rfl (lv_at hl 1 rfl) ?_
      refine lv_iload_n hx hb dX4_areBeside_17 rfl (lv_at hl 2 rfl) ?_
      refine kx_icmp_eq (tgt := 41) hx hb (by omega) (by omega) dX4_areBeside_18 (by decide) (fun h18 => ?_) (fun h18 => ?_)
      · skip
        refine kx_const (z := 0) hx hb dX4_areBeside_41 rfl ?_
        exact hret 0 _ _ (Or.inr ⟨rfl, by rw [mB_iff]; rintro ⟨q1, q2, q3, q4⟩; first | exact h5 q1 | exact h13 q2 | exact q3 h18 | exact q4 h34⟩) dX4_areBeside_42
      · skip
        refine lv_aload_n hx hb dX4_areBeside_21 rfl (lv_at hl 0 rfl) ?_
        refine va_get (D := D) (ci := 4) (v := .ref m4) (C := RX4) (T := TX4) (N := 39) hx hb hts iX4 hown hK.1 hP 0 rfl rfl 4 (by decide) (hts (.fieldLink RX4 13 "CloseClocksModel" "delayOf" "[I") (by decide +kernel)) (fun _ h9 => h9) rfl dX4_areBeside_22 ?_
        refine kx_bipush (z := 6) hx hb dX4_areBeside_25 (by decide) ?_
        refine lv_iload_n hx hb dX4_areBeside_27 rfl (lv_at hl 1 rfl) ?_
        refine kx_imul hx hb dX4_areBeside_28 ?_
        refine lv_iload_n hx hb dX4_areBeside_29 rfl (lv_at hl 2 rfl) ?_
        refine kx_iadd hx hb dX4_areBeside_30 ?_
        refine kx_iald (k := ((6 * z + w).toNat)) hx hb hK hP 2 rfl (by omega) (by omega) (by decide) dX4_areBeside_31 ?_
        have rg_1 := hdl ((6 * z + w).toNat) (by omega)
        refine kx_ldc (z := -100000001) hx hb hown (hts (.constant RX4 96 (-100000001)) (by decide +kernel)) dX4_areBeside_32 (by decide) ?_
        refine kx_icmp_eq (tgt := 41) hx hb (by omega) (by omega) dX4_areBeside_34 (by decide) (fun h34 => ?_) (fun h34 => ?_)
        · skip
          refine kx_const (z := 0) hx hb dX4_areBeside_41 rfl ?_
          exact hret 0 _ _ (Or.inr ⟨rfl, by rw [mB_iff]; rintro ⟨q1, q2, q3, q4⟩; first | exact h5 q1 | exact h13 q2 | exact q3 h18 | exact q4 h34⟩) dX4_areBeside_42
        · skip
          refine kx_const (z := 1) hx hb dX4_areBeside_37 rfl ?_
          refine lv_goto (tgt := 42) hx hb dX4_areBeside_38 (by decide) ?_
          exact hret 1 _ _ (Or.inl ⟨rfl, by exact mB_iff.mpr ⟨h5, h13, h18, h34⟩⟩) dX4_areBeside_42
def rm_X4_guess : Room := ({ frames := 0, cells := 0, slots := 0, locals := 0 } : Room)
set_option maxHeartbeats 4000000 in
set_option maxRecDepth 100000 in
theorem c_X4_guess (l : Launch) (D : va_G) (cI cZ : ClassId) (h m1 m4 m5 m6 m7 m8 m9 m21 m22 m23 m24 m25 m26 m30 m31 m32 m33 m34 m35 : Nat) (pl nd lk st bo ti te nr ml nn nl du nO nT wm wb ik kt kl : Int) (hh : Int64) (pg dl er ra ck fa ft nw tu tc tr tf tt kc kr ke kd kf kg : Nat → Int) (i j : Nat) (hi : i < 6) (hj : j < 6) (hd : 0 ≤ dl (6 * i + j) ∧ dl (6 * i + j) ≤ 3) : kRO l yX4_guess wsX4_guess rm_X4_guess D cI cZ [.ref h, .int (iI (i : Int)), .int (iI (j : Int))] (mdW cI cZ h m1 m4 m5 m6 m7 m8 m9 m21 m22 m23 m24 m25 m26 m30 m31 m32 m33 m34 m35 pl nd lk st bo ti te nr ml nn nl du nO nT wm wb ik kt kl hh pg dl er ra ck fa ft nw tu tc tr tf tt kc kr ke kd kf kg) (some (.int (iI (mG ck dl er i j)))) := by
  refine kx_ROi (cc := cX4_guess) (maxL := 4) (by decide) rfl (Nat.le_of_ble_eq_true rfl) ?_
  intro pr en s mi args below meth co Q hx hb hml hown hts hK hP hret ls hl
  have hown : s.vm.findClass RX4 = some mi.cls := hown
  have iX4 : ∀ w ∈ wsX40, w ∈ wsX4_guess := by decide +kernel
  have hl : lv_has ls 4 [(0, .ref h), (1, .int (iI (i : Int))), (2, .int (iI (j : Int)))] := hl
  refine lv_aload_n hx hb dX4_guess_0 rfl (lv_at hl 0 rfl) ?_
  refine va_get (D := D) (ci := 4) (v := .ref m4) (C := RX4) (T := TX4) (N := 39) hx hb hts iX4 hown hK.1 hP 0 rfl rfl 4 (by decide) (hts (.fieldLink RX4 13 "CloseClocksModel" "delayOf" "[I") (by decide +kernel)) (fun _ h9 => h9) rfl dX4_guess_1 ?_
  refine kx_bipush (z := 6) hx hb dX4_guess_4 (by decide) ?_
  refine lv_iload_n hx hb dX4_guess_6 rfl (lv_at hl 1 rfl) ?_
  refine kx_imul hx hb dX4_guess_7 ?_
  refine lv_iload_n hx hb dX4_guess_8 rfl (lv_at hl 2 rfl) ?_
  refine kx_iadd hx hb dX4_guess_9 ?_
  refine kx_iald (k := ((6 * i) + j)) hx hb hK hP 2 rfl (by omega) (by omega) (by decide) dX4_guess_10 ?_
  refine lv_istore_n (lv' := [(3, .int (iI (dl ((6 * i) + j)))), (0, .ref h), (1, .int (iI (i : Int))), (2, .int (iI (j : Int)))]) hx hb dX4_guess_11 rfl hl (by decide) rfl (fun ls hl => ?_)
  refine lv_aload_n hx hb dX4_guess_12 rfl (lv_at hl 1 rfl) ?_
  refine va_get (D := D) (ci := 4) (v := .ref m7) (C := RX4) (T := TX4) (N := 39) hx hb hts iX4 hown hK.1 hP 0 rfl rfl 7 (by decide) (hts (.fieldLink RX4 22 "CloseClocksModel" "clockAt" "[I") (by decide +kernel)) (fun _ h9 => h9) rfl dX4_guess_13 ?_
  refine kx_const (z := 4) hx hb dX4_guess_16 rfl ?_
  refine lv_iload_n hx hb dX4_guess_17 rfl (lv_at hl 3 rfl) ?_
  refine kx_imul hx hb dX4_guess_18 ?_
  refine lv_iload_n hx hb dX4_guess_19 rfl (lv_at hl 0 rfl) ?_
  refine kx_iadd hx hb dX4_guess_20 ?_
  refine kx_iald (k := (4 * j + (dl (6 * i + j)).toNat)) hx hb hK hP 5 rfl (by omega) (by omega) (by decide) dX4_guess_21 ?_
  refine kx_bipush (z := 100) hx hb dX4_guess_22 (by decide) ?_
  refine lv_iload_n hx hb dX4_guess_24 rfl (lv_at hl 0 rfl) ?_
  refine kx_imul hx hb dX4_guess_25 ?_
  refine kx_iadd hx hb dX4_guess_26 ?_
  refine lv_aload_n hx hb dX4_guess_27 rfl (lv_at hl 1 rfl) ?_
  refine va_get (D := D) (ci := 4) (v := .ref m5) (C := RX4) (T := TX4) (N := 39) hx hb hts iX4 hown hK.1 hP 0 rfl rfl 5 (by decide) (hts (.fieldLink RX4 16 "CloseClocksModel" "errorOf" "[I") (by decide +kernel)) (fun _ h9 => h9) rfl dX4_guess_28 ?_
  refine kx_bipush (z := 6) hx hb dX4_guess_31 (by decide) ?_
  refine lv_iload_n hx hb dX4_guess_33 rfl (lv_at hl 2 rfl) ?_
  refine kx_imul hx hb dX4_guess_34 ?_
  refine lv_iload_n hx hb dX4_guess_35 rfl (lv_at hl 3 rfl) ?_
  refine kx_iadd hx hb dX4_guess_36 ?_
  refine kx_iald (k := ((6 * i) + j)) hx hb hK hP 3 rfl (by omega) (by omega) (by decide) dX4_guess_37 ?_
  refine kx_iadd hx hb dX4_guess_38 ?_
  refine kx_top (b := (mG ck dl er i j)) (by unfold mG; rfl) ?_
  exact hret _ _ dX4_guess_39
def rm_X4_off : Room := ({ frames := 3, cells := 0, slots := 0, locals := 65 } : Room)
set_option maxHeartbeats 4000000 in
set_option maxRecDepth 100000 in
theorem c_X4_off (l : Launch) (D : va_G) (cI cZ : ClassId) (h m1 m4 m5 m6 m7 m8 m9 m21 m22 m23 m24 m25 m26 m30 m31 m32 m33 m34 m35 : Nat) (pl nd lk st bo ti te nr ml nn nl du nO nT wm wb ik kt kl : Int) (hh : Int64) (pg dl er ra ck fa ft nw tu tc tr tf tt kc kr ke kd kf kg : Nat → Int) (v : Nat) (a : Int) (hv : v < 6) (ha : a = 0 ∨ a = 1) (hnd : 0 ≤ nd ∧ nd ≤ 6) (hdl : ∀ k : Nat, k < 36 → dl k = -100000001 ∨ (0 ≤ dl k ∧ dl k ≤ 3)) (hck : ∀ k : Nat, k < 24 → 0 ≤ ck k ∧ ck k ≤ 50000000) (her : ∀ k : Nat, k < 36 → -9 ≤ er k ∧ er k ≤ 9) : kRO l yX4_off wsX4_off rm_X4_off D cI cZ [.ref h, .int (iI (v : Int)), .int (iI a)] (mdW cI cZ h m1 m4 m5 m6 m7 m8 m9 m21 m22 m23 m24 m25 m26 m30 m31 m32 m33 m34 m35 pl nd lk st bo ti te nr ml nn nl du nO nT wm wb ik kt kl hh pg dl er ra ck fa ft nw tu tc tr tf tt kc kr ke kd kf kg) (some (.int (iI (mOf ck dl er nd a v nd.toNat)))) := by
  refine kx_ROi (cc := cX4_off) (maxL := 6) (by decide) rfl (Nat.le_of_ble_eq_true rfl) ?_
  intro pr en s mi args below meth co Q hx hb hml hown hts hK hP hret ls hl
  have hown : s.vm.findClass RX4 = some mi.cls := hown
  have iX4 : ∀ w ∈ wsX40, w ∈ wsX4_off := by decide +kernel
  have hl : lv_has ls 6 [(0, .ref h), (1, .int (iI (v : Int))), (2, .int (iI a))] := hl
  refine kx_ldc (z := -100000001) hx hb hown (hts (.constant RX4 96 (-100000001)) (by decide +kernel)) dX4_off_0 (by decide) ?_
  refine lv_istore_n (lv' := [(3, .int (iI (-100000001))), (0, .ref h), (1, .int (iI (v : Int))), (2, .int (iI a))]) hx hb dX4_off_2 rfl hl (by decide) rfl (fun ls hl => ?_)
  refine kx_const (z := 0) hx hb dX4_off_3 rfl ?_
  refine lv_istore (lv' := [(4, .int (iI 0)), (3, .int (iI (-100000001))), (0, .ref h), (1, .int (iI (v : Int))), (2, .int (iI a))]) hx hb dX4_off_4 hl (by decide) rfl (fun ls hl => ?_)
  have L6 : ∀ (fu : Nat) (w : Nat) (mo : Int), ((w : Int) ≤ nd) → (mo = mOf ck dl er nd a v w) → nd.toNat - w < fu → ∀ ls : Array Slot, lv_has ls 6 [(0, .ref h), (1, .int (iI (v : Int))), (2, .int (iI a)), (3, .int (iI mo)), (4, .int (iI (w : Int)))] → W pr l en rm_X4_off s mi args below meth co s.heap [] 0 0 Q (F0 mi 6 ls []) := by
    intro fu
    induction fu with
    | zero =>
      intro w mo hw hmo hfu
      exact absurd hfu (Nat.not_lt_zero _)
    | succ fu ih6 =>
      intro w mo hw hmo hfu ls hl
      have hmr := mOf_rng (a := a) (v := v) hck her hdl hnd w
      refine lv_iload hx hb dX4_off_6 (lv_at hl 4 rfl) ?_
      refine lv_aload_n hx hb dX4_off_8 rfl (lv_at hl 0 rfl) ?_
      refine va_get (D := D) (ci := 4) (v := .int (iI nd)) (C := RX4) (T := TX4) (N := 39) hx hb hts iX4 hown hK.1 hP 0 rfl rfl 2 (by decide) (hts (.fieldLink RX4 112 "CloseClocksModel" "nodes" "I") (by decide +kernel)) (fun _ h9 => h9) rfl dX4_off_9 ?_
      refine kx_icmp_ge (tgt := 82) hx hb (by omega) (by omega) dX4_off_12 (by decide) (fun h12 => ?_) (fun h12 => ?_)
      · skip
        have hwe : nd.toNat = w := by omega
        refine lv_iload_n hx hb dX4_off_82 rfl (lv_at hl 3 rfl) ?_
        refine kx_top (b := (mOf ck dl er nd a v nd.toNat)) (by rw [hwe]; exact hmo) ?_
        exact hret _ _ dX4_off_83
      · skip
        refine lv_aload_n hx hb dX4_off_15 rfl (lv_at hl 0 rfl) ?_
        refine lv_iload_n hx hb dX4_off_16 rfl (lv_at hl 1 rfl) ?_
        refine lv_iload hx hb dX4_off_17 (lv_at hl 4 rfl) ?_
        refine kx_cV (As := [.int (iI (v : Int)), .int (iI (w : Int))]) (rest := []) (st1 := [.int (iI (if (mB dl nd (v : Int) (w : Int) = true) then 1 else 0))]) (q0 := 0) (ci := 4) ⟨hx, hb, hml, hown, hts⟩ (c_X4_areBeside l D cI cZ h m1 m4 m5 m6 m7 m8 m9 m21 m22 m23 m24 m25 m26 m30 m31 m32 m33 m34 m35 pl nd lk st bo ti te nr ml nn nl du nO nT wm wb ik kt kl hh pg dl er ra ck fa ft nw tu tc tr tf tt kc kr ke kd kf kg (v : Int) (w : Int) (by first | assumption | omega) (by first | assumption | omega) (by first | assumption | omega) (by first | assumption | omega)) (cwV 2 hts gX4_off_X4_areBeside rfl rfl rfl (by decide +kernel) ⟨Nat.le_of_ble_eq_true rfl, Nat.le_of_ble_eq_true rfl⟩) hK hP rfl rfl rfl hl.1 rfl (Nat.le_of_ble_eq_true rfl) dX4_off_19 ⟨Nat.zero_le _, Nat.zero_le _⟩ rfl ?_
        refine kx_if_eqB (tgt := 76) hx hb dX4_off_22 (by decide) (fun h22 => ?_) (fun h22 => ?_)
        · skip
          refine kx_iinc (z := ((w + 1 : Nat) : Int)) (lv' := [(4, .int (iI ((w + 1 : Nat) : Int))), (0, .ref h), (1, .int (iI (v : Int))), (2, .int (iI a)), (3, .int (iI mo))]) hx hb dX4_off_76 hl (k0 := 4) rfl (by omega) (by decide) rfl (fun ls hl => ?_)
          refine lv_goto (tgt := 6) hx hb dX4_off_79 (by decide) ?_
          exact ih6 (w + 1) mo (by first | assumption | omega) (by first | (rw [mOf_no h22]; exact hmo) | (rw [mOf_up h22 (by first | (left; omega) | (right; omega))]) | (rw [mOf_st h22 (by omega) (by omega)]; exact hmo)) (by omega) ls (lv_sub hl [1, 2, 3, 4, 0] rfl)
        · skip
          obtain ⟨g1, g2, g3⟩ := mB_dl hdl hnd h22
          have hdr := mD_rng (a := a) hck her g1 g2 g3
          refine lv_aload_n hx hb dX4_off_25 rfl (lv_at hl 0 rfl) ?_
          refine lv_iload_n hx hb dX4_off_26 rfl (lv_at hl 1 rfl) ?_
          refine lv_iload hx hb dX4_off_27 (lv_at hl 4 rfl) ?_
          refine kx_cV (As := [.int (iI (v : Int)), .int (iI (w : Int))]) (rest := []) (st1 := [.int (iI (mG ck dl er v w))]) (q0 := 0) (ci := 4) ⟨hx, hb, hml, hown, hts⟩ (c_X4_guess l D cI cZ h m1 m4 m5 m6 m7 m8 m9 m21 m22 m23 m24 m25 m26 m30 m31 m32 m33 m34 m35 pl nd lk st bo ti te nr ml nn nl du nO nT wm wb ik kt kl hh pg dl er ra ck fa ft nw tu tc tr tf tt kc kr ke kd kf kg v w (by first | assumption | omega) (g2) (g3)) (cwV 2 hts gX4_off_X4_guess rfl rfl rfl (by decide +kernel) ⟨Nat.le_of_ble_eq_true rfl, Nat.le_of_ble_eq_true rfl⟩) hK hP rfl rfl rfl hl.1 rfl (Nat.le_of_ble_eq_true rfl) dX4_off_29 ⟨Nat.zero_le _, Nat.zero_le _⟩ rfl ?_
          refine lv_aload_n hx hb dX4_off_32 rfl (lv_at hl 0 rfl) ?_
          refine va_get (D := D) (ci := 4) (v := .ref m7) (C := RX4) (T := TX4) (N := 39) hx hb hts iX4 hown hK.1 hP 0 rfl rfl 7 (by decide) (hts (.fieldLink RX4 22 "CloseClocksModel" "clockAt" "[I") (by decide +kernel)) (fun _ h9 => h9) rfl dX4_off_33 ?_
          refine kx_const (z := 4) hx hb dX4_off_36 rfl ?_
          refine lv_iload_n hx hb dX4_off_37 rfl (lv_at hl 1 rfl) ?_
          refine kx_imul hx hb dX4_off_38 ?_
          refine kx_iald (k := (4 * v)) hx hb hK hP 5 rfl (by omega) (by omega) (by decide) dX4_off_39 ?_
          refine kx_isub hx hb dX4_off_40 ?_
          refine lv_istore (lv' := [(5, .int (iI ((mG ck dl er v w) - (ck (4 * v))))), (0, .ref h), (1, .int (iI (v : Int))), (2, .int (iI a)), (3, .int (iI mo)), (4, .int (iI (w : Int)))]) hx hb dX4_off_41 hl (by decide) rfl (fun ls hl => ?_)
          refine lv_iload_n hx hb dX4_off_43 rfl (lv_at hl 3 rfl) ?_
          refine kx_if_eq (tgt := 52) hx hb (by omega) dX4_off_44 (by decide) (fun h44 => ?_) (fun h44 => ?_)
          · skip
            refine lv_iload hx hb dX4_off_52 (lv_at hl 0 rfl) ?_
            refine kx_ineg hx hb dX4_off_54 ?_
            refine kx_top (b := (mD ck dl er a v w)) (by first | (rw [mD, if_pos (by omega)]) | (rw [mD, if_neg (by omega)])) ?_
            refine lv_istore (lv' := [(5, .int (iI (mD ck dl er a v w))), (0, .ref h), (1, .int (iI (v : Int))), (2, .int (iI a)), (3, .int (iI mo)), (4, .int (iI (w : Int)))]) hx hb dX4_off_55 hl (by decide) rfl (fun ls hl => ?_)
            refine lv_iload_n hx hb dX4_off_57 rfl (lv_at hl 4 rfl) ?_
            refine kx_ldc (z := -100000001) hx hb hown (hts (.constant RX4 96 (-100000001)) (by decide +kernel)) dX4_off_58 (by decide) ?_
            refine kx_icmp_eq (tgt := 69) hx hb (by omega) (by omega) dX4_off_60 (by decide) (fun h60 => ?_) (fun h60 => ?_)
            · skip
              refine lv_iload hx hb dX4_off_69 (lv_at hl 0 rfl) ?_
              refine lv_goto (tgt := 75) hx hb dX4_off_71 (by decide) ?_
              refine lv_istore_n (lv' := [(3, .int (iI (mD ck dl er a v w))), (5, .int (iI (mD ck dl er a v w))), (0, .ref h), (1, .int (iI (v : Int))), (2, .int (iI a)), (4, .int (iI (w : Int)))]) hx hb dX4_off_75 rfl hl (by decide) rfl (fun ls hl => ?_)
              refine kx_iinc (z := ((w + 1 : Nat) : Int)) (lv' := [(4, .int (iI ((w + 1 : Nat) : Int))), (3, .int (iI (mD ck dl er a v w))), (5, .int (iI (mD ck dl er a v w))), (0, .ref h), (1, .int (iI (v : Int))), (2, .int (iI a))]) hx hb dX4_off_76 hl (k0 := 5) rfl (by omega) (by decide) rfl (fun ls hl => ?_)
              refine lv_goto (tgt := 6) hx hb dX4_off_79 (by decide) ?_
              exact ih6 (w + 1) (mD ck dl er a v w) (by first | assumption | omega) (by first | (rw [mOf_no h22]; exact hmo) | (rw [mOf_up h22 (by first | (left; omega) | (right; omega))]) | (rw [mOf_st h22 (by omega) (by omega)]; exact hmo)) (by omega) ls (lv_sub hl [3, 4, 5, 1, 0] rfl)
            · skip
              refine lv_iload hx hb dX4_off_63 (lv_at hl 0 rfl) ?_
              refine lv_iload_n hx hb dX4_off_65 rfl (lv_at hl 4 rfl) ?_
              refine kx_icmp_le (tgt := 74) hx hb (by omega) (by omega) dX4_off_66 (by decide) (fun h66 => ?_) (fun h66 => ?_)
              · skip
                refine lv_iload_n hx hb dX4_off_74 rfl (lv_at hl 4 rfl) ?_
                refine lv_istore_n (lv' := [(3, .int (iI mo)), (5, .int (iI (mD ck dl er a v w))), (0, .ref h), (1, .int (iI (v : Int))), (2, .int (iI a)), (4, .int (iI (w : Int)))]) hx hb dX4_off_75 rfl hl (by decide) rfl (fun ls hl => ?_)
                refine kx_iinc (z := ((w + 1 : Nat) : Int)) (lv' := [(4, .int (iI ((w + 1 : Nat) : Int))), (3, .int (iI mo)), (5, .int (iI (mD ck dl er a v w))), (0, .ref h), (1, .int (iI (v : Int))), (2, .int (iI a))]) hx hb dX4_off_76 hl (k0 := 5) rfl (by omega) (by decide) rfl (fun ls hl => ?_)
                refine lv_goto (tgt := 6) hx hb dX4_off_79 (by decide) ?_
                exact ih6 (w + 1) mo (by first | assumption | omega) (by first | (rw [mOf_no h22]; exact hmo) | (rw [mOf_up h22 (by first | (left; omega) | (right; omega))]) | (rw [mOf_st h22 (by omega) (by omega)]; exact hmo)) (by omega) ls (lv_sub hl [3, 4, 5, 1, 0] rfl)
              · skip
                refine lv_iload hx hb dX4_off_69 (lv_at hl 0 rfl) ?_
                refine lv_goto (tgt := 75) hx hb dX4_off_71 (by decide) ?_
                refine lv_istore_n (lv' := [(3, .int (iI (mD ck dl er a v w))), (5, .int (iI (mD ck dl er a v w))), (0, .ref h), (1, .int (iI (v : Int))), (2, .int (iI a)), (4, .int (iI (w : Int)))]) hx hb dX4_off_75 rfl hl (by decide) rfl (fun ls hl => ?_)
                refine kx_iinc (z := ((w + 1 : Nat) : Int)) (lv' := [(4, .int (iI ((w + 1 : Nat) : Int))), (3, .int (iI (mD ck dl er a v w))), (5, .int (iI (mD ck dl er a v w))), (0, .ref h), (1, .int (iI (v : Int))), (2, .int (iI a))]) hx hb dX4_off_76 hl (k0 := 5) rfl (by omega) (by decide) rfl (fun ls hl => ?_)
                refine lv_goto (tgt := 6) hx hb dX4_off_79 (by decide) ?_
                exact ih6 (w + 1) (mD ck dl er a v w) (by first | assumption | omega) (by first | (rw [mOf_no h22]; exact hmo) | (rw [mOf_up h22 (by first | (left; omega) | (right; omega))]) | (rw [mOf_st h22 (by omega) (by omega)]; exact hmo)) (by omega) ls (lv_sub hl [3, 4, 5, 1, 0] rfl)
          · skip
            refine lv_iload hx hb dX4_off_47 (lv_at hl 0 rfl) ?_
            refine lv_goto (tgt := 55) hx hb dX4_off_49 (by decide) ?_
            refine kx_top (b := (mD ck dl er a v w)) (by first | (rw [mD, if_pos (by omega)]) | (rw [mD, if_neg (by omega)])) ?_
            refine lv_istore (lv' := [(5, .int (iI (mD ck dl er a v w))), (0, .ref h), (1, .int (iI (v : Int))), (2, .int (iI a)), (3, .int (iI mo)), (4, .int (iI (w : Int)))]) hx hb dX4_off_55 hl (by decide) rfl (fun ls hl => ?_)
            refine lv_iload_n hx hb dX4_off_57 rfl (lv_at hl 4 rfl) ?_
            refine kx_ldc (z := -100000001) hx hb hown (hts (.constant RX4 96 (-100000001)) (by decide +kernel)) dX4_off_58 (by decide) ?_
            refine kx_icmp_eq (tgt := 69) hx hb (by omega) (by omega) dX4_off_60 (by decide) (fun h60 => ?_) (fun h60 => ?_)
            · skip
              refine lv_iload hx hb dX4_off_69 (lv_at hl 0 rfl) ?_
              refine lv_goto (tgt := 75) hx hb dX4_off_71 (by decide) ?_
              refine lv_istore_n (lv' := [(3, .int (iI (mD ck dl er a v w))), (5, .int (iI (mD ck dl er a v w))), (0, .ref h), (1, .int (iI (v : Int))), (2, .int (iI a)), (4, .int (iI (w : Int)))]) hx hb dX4_off_75 rfl hl (by decide) rfl (fun ls hl => ?_)
              refine kx_iinc (z := ((w + 1 : Nat) : Int)) (lv' := [(4, .int (iI ((w + 1 : Nat) : Int))), (3, .int (iI (mD ck dl er a v w))), (5, .int (iI (mD ck dl er a v w))), (0, .ref h), (1, .int (iI (v : Int))), (2, .int (iI a))]) hx hb dX4_off_76 hl (k0 := 5) rfl (by omega) (by decide) rfl (fun ls hl => ?_)
              refine lv_goto (tgt := 6) hx hb dX4_off_79 (by decide) ?_
              exact ih6 (w + 1) (mD ck dl er a v w) (by first | assumption | omega) (by first | (rw [mOf_no h22]; exact hmo) | (rw [mOf_up h22 (by first | (left; omega) | (right; omega))]) | (rw [mOf_st h22 (by omega) (by omega)]; exact hmo)) (by omega) ls (lv_sub hl [3, 4, 5, 1, 0] rfl)
            · skip
              refine lv_iload hx hb dX4_off_63 (lv_at hl 0 rfl) ?_
              refine lv_iload_n hx hb dX4_off_65 rfl (lv_at hl 4 rfl) ?_
              refine kx_icmp_le (tgt := 74) hx hb (by omega) (by omega) dX4_off_66 (by decide) (fun h66 => ?_) (fun h66 => ?_)
              · skip
                refine lv_iload_n hx hb dX4_off_74 rfl (lv_at hl 4 rfl) ?_
                refine lv_istore_n (lv' := [(3, .int (iI mo)), (5, .int (iI (mD ck dl er a v w))), (0, .ref h), (1, .int (iI (v : Int))), (2, .int (iI a)), (4, .int (iI (w : Int)))]) hx hb dX4_off_75 rfl hl (by decide) rfl (fun ls hl => ?_)
                refine kx_iinc (z := ((w + 1 : Nat) : Int)) (lv' := [(4, .int (iI ((w + 1 : Nat) : Int))), (3, .int (iI mo)), (5, .int (iI (mD ck dl er a v w))), (0, .ref h), (1, .int (iI (v : Int))), (2, .int (iI a))]) hx hb dX4_off_76 hl (k0 := 5) rfl (by omega) (by decide) rfl (fun ls hl => ?_)
                refine lv_goto (tgt := 6) hx hb dX4_off_79 (by decide) ?_
                exact ih6 (w + 1) mo (by first | assumption | omega) (by first | (rw [mOf_no h22]; exact hmo) | (rw [mOf_up h22 (by first | (left; omega) | (right; omega))]) | (rw [mOf_st h22 (by omega) (by omega)]; exact hmo)) (by omega) ls (lv_sub hl [3, 4, 5, 1, 0] rfl)
              · skip
                refine lv_iload hx hb dX4_off_69 (lv_at hl 0 rfl) ?_
                refine lv_goto (tgt := 75) hx hb dX4_off_71 (by decide) ?_
                refine lv_istore_n (lv' := [(3, .int (iI (mD ck dl er a v w))), (5, .int (iI (mD ck dl er a v w))), (0, .ref h), (1, .int (iI (v : Int))), (2, .int (iI a)), (4, .int (iI (w : Int)))]) hx hb dX4_off_75 rfl hl (by decide) rfl (fun ls hl => ?_)
                refine kx_iinc (z := ((w + 1 : Nat) : Int)) (lv' := [(4, .int (iI ((w + 1 : Nat) : Int))), (3, .int (iI (mD ck dl er a v w))), (5, .int (iI (mD ck dl er a v w))), (0, .ref h), (1, .int (iI (v : Int))), (2, .int (iI a))]) hx hb dX4_off_76 hl (k0 := 5) rfl (by omega) (by decide) rfl (fun ls hl => ?_)
                refine lv_goto (tgt := 6) hx hb dX4_off_79 (by decide) ?_
                exact ih6 (w + 1) (mD ck dl er a v w) (by first | assumption | omega) (by first | (rw [mOf_no h22]; exact hmo) | (rw [mOf_up h22 (by first | (left; omega) | (right; omega))]) | (rw [mOf_st h22 (by omega) (by omega)]; exact hmo)) (by omega) ls (lv_sub hl [3, 4, 5, 1, 0] rfl)
  exact L6 (nd.toNat - 0 + 1) 0 (-100000001) (by first | assumption | omega) (by rfl) (Nat.lt_succ_self _) ls (lv_sub hl [2, 3, 4, 1, 0] rfl)
def rm_X4_firstOf : Room := ({ frames := 0, cells := 0, slots := 0, locals := 0 } : Room)
set_option maxHeartbeats 4000000 in
set_option maxRecDepth 100000 in
theorem c_X4_firstOf (l : Launch) (D : va_G) (cI cZ : ClassId) (h m1 m4 m5 m6 m7 m8 m9 m21 m22 m23 m24 m25 m26 m30 m31 m32 m33 m34 m35 : Nat) (pl nd lk st bo ti te nr ml nn nl du nO nT wm wb ik kt kl : Int) (hh : Int64) (pg dl er ra ck fa ft nw tu tc tr tf tt kc kr ke kd kf kg : Nat → Int) (a f : Int) (ha : -1000000000 ≤ a ∧ a ≤ 1000000000) (hf : f = 1 ∨ f = 2) (hst : 1 ≤ st ∧ st ≤ 500) : kRO l yX4_firstOf wsX4_firstOf rm_X4_firstOf D cI cZ [.ref h, .int (iI a), .int (iI f)] (mdW cI cZ h m1 m4 m5 m6 m7 m8 m9 m21 m22 m23 m24 m25 m26 m30 m31 m32 m33 m34 m35 pl nd lk st bo ti te nr ml nn nl du nO nT wm wb ik kt kl hh pg dl er ra ck fa ft nw tu tc tr tf tt kc kr ke kd kf kg) (some (.int (iI (mFi st a f)))) := by
  refine kx_ROi (cc := cX4_firstOf) (maxL := 4) (by decide) rfl (Nat.le_of_ble_eq_true rfl) ?_
  intro pr en s mi args below meth co Q hx hb hml hown hts hK hP hret ls hl
  have hown : s.vm.findClass RX4 = some mi.cls := hown
  have iX4 : ∀ w ∈ wsX40, w ∈ wsX4_firstOf := by decide +kernel
  have hl : lv_has ls 4 [(0, .ref h), (1, .int (iI a)), (2, .int (iI f))] := hl
  have hfs : f * st = st ∨ f * st = 2 * st := by rcases hf with h | h <;> rw [h] <;> omega
  have hbd := mN_bd (a := a) hst hf ha.2
  have J27_1 : ∀ (x : Int), (x = mN st a f) → ∀ ls : Array Slot, lv_has ls 4 [(0, .ref h), (1, .int (iI a)), (2, .int (iI f))] → W pr l en rm_X4_firstOf s mi args below meth co s.heap [] 0 0 Q (F0 mi 27 ls [.int (iI x)]) := by
    intro x hx9 ls hl
    refine lv_istore_n (lv' := [(3, .int (iI x)), (0, .ref h), (1, .int (iI a)), (2, .int (iI f))]) hx hb dX4_firstOf_27 rfl hl (by decide) rfl (fun ls hl => ?_)
    refine lv_iload_n hx hb dX4_firstOf_28 rfl (lv_at hl 0 rfl) ?_
    refine kx_const (z := 2) hx hb dX4_firstOf_29 rfl ?_
    refine kx_irem hx hb (by omega) (by omega) dX4_firstOf_30 ?_
    refine lv_iload_n hx hb dX4_firstOf_31 rfl (lv_at hl 3 rfl) ?_
    refine kx_const (z := 2) hx hb dX4_firstOf_32 rfl ?_
    refine kx_irem hx hb (by omega) (by omega) dX4_firstOf_33 ?_
    refine kx_icmp_ne (tgt := 41) hx hb (by omega) (by omega) dX4_firstOf_34 (by decide) (fun h34 => ?_) (fun h34 => ?_)
    · skip
      refine lv_iload_n hx hb dX4_firstOf_41 rfl (lv_at hl 0 rfl) ?_
      refine kx_const (z := 1) hx hb dX4_firstOf_42 rfl ?_
      refine kx_iadd hx hb dX4_firstOf_43 ?_
      refine kx_top (b := (mFi st a f)) (by rw [hx9]; first | (rw [mFi, if_pos (by omega)]) | (rw [mFi, if_neg (by omega)])) ?_
      exact hret _ _ dX4_firstOf_44
    · skip
      refine lv_iload_n hx hb dX4_firstOf_37 rfl (lv_at hl 0 rfl) ?_
      refine lv_goto (tgt := 44) hx hb dX4_firstOf_38 (by decide) ?_
      refine kx_top (b := (mFi st a f)) (by rw [hx9]; first | (rw [mFi, if_pos (by omega)]) | (rw [mFi, if_neg (by omega)])) ?_
      exact hret _ _ dX4_firstOf_44
  refine lv_iload_n hx hb dX4_firstOf_0 rfl (lv_at hl 1 rfl) ?_
  refine lv_iload_n hx hb dX4_firstOf_1 rfl (lv_at hl 2 rfl) ?_
  refine lv_aload_n hx hb dX4_firstOf_2 rfl (lv_at hl 0 rfl) ?_
  refine va_get (D := D) (ci := 4) (v := .int (iI st)) (C := RX4) (T := TX4) (N := 39) hx hb hts iX4 hown hK.1 hP 0 rfl rfl 10 (by decide) (hts (.fieldLink RX4 32 "CloseClocksModel" "step" "I") (by decide +kernel)) (fun _ h9 => h9) rfl dX4_firstOf_3 ?_
  refine kx_imul hx hb dX4_firstOf_6 ?_
  refine kx_icmp_gt (tgt := 14) hx hb (by omega) (by omega) dX4_firstOf_7 (by decide) (fun h7 => ?_) (fun h7 => ?_)
  · skip
    refine lv_iload_n hx hb dX4_firstOf_14 rfl (lv_at hl 1 rfl) ?_
    refine lv_aload_n hx hb dX4_firstOf_15 rfl (lv_at hl 0 rfl) ?_
    refine va_get (D := D) (ci := 4) (v := .int (iI st)) (C := RX4) (T := TX4) (N := 39) hx hb hts iX4 hown hK.1 hP 0 rfl rfl 10 (by decide) (hts (.fieldLink RX4 32 "CloseClocksModel" "step" "I") (by decide +kernel)) (fun _ h9 => h9) rfl dX4_firstOf_16 ?_
    refine kx_iadd hx hb dX4_firstOf_19 ?_
    refine kx_const (z := 1) hx hb dX4_firstOf_20 rfl ?_
    refine kx_isub hx hb dX4_firstOf_21 ?_
    refine lv_aload_n hx hb dX4_firstOf_22 rfl (lv_at hl 0 rfl) ?_
    refine va_get (D := D) (ci := 4) (v := .int (iI st)) (C := RX4) (T := TX4) (N := 39) hx hb hts iX4 hown hK.1 hP 0 rfl rfl 10 (by decide) (hts (.fieldLink RX4 32 "CloseClocksModel" "step" "I") (by decide +kernel)) (fun _ h9 => h9) rfl dX4_firstOf_23 ?_
    refine kx_idiv hx hb (by omega) (by omega) dX4_firstOf_26 ?_
    exact J27_1 (((a + st) - 1) / st) (by first | (rw [mN, if_pos (by omega)]) | (rw [mN, if_neg (by omega)])) ls (lv_sub hl [0, 1, 2] rfl)
  · skip
    refine lv_iload_n hx hb dX4_firstOf_10 rfl (lv_at hl 2 rfl) ?_
    refine lv_goto (tgt := 27) hx hb dX4_firstOf_11 (by decide) ?_
    exact J27_1 f (by first | (rw [mN, if_pos (by omega)]) | (rw [mN, if_neg (by omega)])) ls (lv_sub hl [0, 1, 2] rfl)
def rm_X4_trigger : Room := ({ frames := 1, cells := 0, slots := 0, locals := 23 } : Room)
set_option maxHeartbeats 4000000 in
set_option maxRecDepth 100000 in
theorem c_X4_trigger (l : Launch) (D : va_G) (cI cZ : ClassId) (h m1 m4 m5 m6 m7 m8 m9 m21 m22 m23 m24 m25 m26 m30 m31 m32 m33 m34 m35 : Nat) (pl nd lk st bo ti te nr ml nn nl du nO nT wm wb ik kt kl : Int) (hh : Int64) (pg dl er ra ck fa ft nw tu tc tr tf tt kc kr ke kd kf kg : Nat → Int) (a b f : Int) (ha : -1000000000 ≤ a ∧ a ≤ 1000000000) (hb2 : -1000000000 ≤ b ∧ b ≤ 1000000000) (hf : f = 1 ∨ f = 2) (hst : 1 ≤ st ∧ st ≤ 500) : kRO l yX4_trigger wsX4_trigger rm_X4_trigger D cI cZ [.ref h, .int (iI a), .int (iI b), .int (iI f)] (mdW cI cZ h m1 m4 m5 m6 m7 m8 m9 m21 m22 m23 m24 m25 m26 m30 m31 m32 m33 m34 m35 pl nd lk st bo ti te nr ml nn nl du nO nT wm wb ik kt kl hh pg dl er ra ck fa ft nw tu tc tr tf tt kc kr ke kd kf kg) (some (.int (iI (mTr st a b f)))) := by
  refine kx_ROi (cc := cX4_trigger) (maxL := 5) (by decide) rfl (Nat.le_of_ble_eq_true rfl) ?_
  intro pr en s mi args below meth co Q hx hb hml hown hts hK hP hret ls hl
  have hown : s.vm.findClass RX4 = some mi.cls := hown
  have iX4 : ∀ w ∈ wsX40, w ∈ wsX4_trigger := by decide +kernel
  have hl : lv_has ls 5 [(0, .ref h), (1, .int (iI a)), (2, .int (iI b)), (3, .int (iI f))] := hl
  have hfs : f * st = st ∨ f * st = 2 * st := by rcases hf with h | h <;> rw [h] <;> omega
  have hbd := mFi_bd (a := a) hst hf ha.2
  refine lv_iload_n hx hb dX4_trigger_0 rfl (lv_at hl 1 rfl) ?_
  refine kx_ldc (z := -100000001) hx hb hown (hts (.constant RX4 96 (-100000001)) (by decide +kernel)) dX4_trigger_1 (by decide) ?_
  refine kx_icmp_ne (tgt := 9) hx hb (by omega) (by omega) dX4_trigger_3 (by decide) (fun h3 => ?_) (fun h3 => ?_)
  · skip
    refine lv_aload_n hx hb dX4_trigger_9 rfl (lv_at hl 0 rfl) ?_
    refine lv_iload_n hx hb dX4_trigger_10 rfl (lv_at hl 1 rfl) ?_
    refine lv_iload_n hx hb dX4_trigger_11 rfl (lv_at hl 3 rfl) ?_
    refine kx_cV (As := [.int (iI a), .int (iI f)]) (rest := []) (st1 := [.int (iI (mFi st a f))]) (q0 := 0) (ci := 4) ⟨hx, hb, hml, hown, hts⟩ (c_X4_firstOf l D cI cZ h m1 m4 m5 m6 m7 m8 m9 m21 m22 m23 m24 m25 m26 m30 m31 m32 m33 m34 m35 pl nd lk st bo ti te nr ml nn nl du nO nT wm wb ik kt kl hh pg dl er ra ck fa ft nw tu tc tr tf tt kc kr ke kd kf kg a f (by first | assumption | omega) (by first | assumption | omega) (by first | assumption | omega)) (cwV 2 hts gX4_trigger_X4_firstOf rfl rfl rfl (by decide +kernel) ⟨Nat.le_of_ble_eq_true rfl, Nat.le_of_ble_eq_true rfl⟩) hK hP rfl rfl rfl hl.1 rfl (Nat.le_of_ble_eq_true rfl) dX4_trigger_12 ⟨Nat.zero_le _, Nat.zero_le _⟩ rfl ?_
    refine lv_istore (lv' := [(4, .int (iI (mFi st a f))), (0, .ref h), (1, .int (iI a)), (2, .int (iI b)), (3, .int (iI f))]) hx hb dX4_trigger_15 hl (by decide) rfl (fun ls hl => ?_)
    refine lv_iload hx hb dX4_trigger_17 (lv_at hl 0 rfl) ?_
    refine lv_aload_n hx hb dX4_trigger_19 rfl (lv_at hl 1 rfl) ?_
    refine va_get (D := D) (ci := 4) (v := .int (iI st)) (C := RX4) (T := TX4) (N := 39) hx hb hts iX4 hown hK.1 hP 0 rfl rfl 10 (by decide) (hts (.fieldLink RX4 32 "CloseClocksModel" "step" "I") (by decide +kernel)) (fun _ h9 => h9) rfl dX4_trigger_20 ?_
    refine kx_imul hx hb dX4_trigger_23 ?_
    refine lv_iload_n hx hb dX4_trigger_24 rfl (lv_at hl 3 rfl) ?_
    refine kx_icmp_gt (tgt := 33) hx hb (by omega) (by omega) dX4_trigger_25 (by decide) (fun h25 => ?_) (fun h25 => ?_)
    · skip
      refine kx_ldc (z := -100000001) hx hb hown (hts (.constant RX4 96 (-100000001)) (by decide +kernel)) dX4_trigger_33 (by decide) ?_
      refine kx_top (b := (mTr st a b f)) (by first | (rw [mTr, if_pos (by omega)]) | (rw [mTr, if_neg (by omega), if_pos (by omega)]) | (rw [mTr, if_neg (by omega), if_neg (by omega)])) ?_
      exact hret _ _ dX4_trigger_35
    · skip
      refine lv_iload hx hb dX4_trigger_28 (lv_at hl 0 rfl) ?_
      refine lv_goto (tgt := 35) hx hb dX4_trigger_30 (by decide) ?_
      refine kx_top (b := (mTr st a b f)) (by first | (rw [mTr, if_pos (by omega)]) | (rw [mTr, if_neg (by omega), if_pos (by omega)]) | (rw [mTr, if_neg (by omega), if_neg (by omega)])) ?_
      exact hret _ _ dX4_trigger_35
  · skip
    refine kx_ldc (z := -100000001) hx hb hown (hts (.constant RX4 96 (-100000001)) (by decide +kernel)) dX4_trigger_6 (by decide) ?_
    refine kx_top (b := (mTr st a b f)) (by first | (rw [mTr, if_pos (by omega)]) | (rw [mTr, if_neg (by omega), if_pos (by omega)]) | (rw [mTr, if_neg (by omega), if_neg (by omega)])) ?_
    exact hret _ _ dX4_trigger_8
def rm_X4_upOf : Room := ({ frames := 4, cells := 0, slots := 0, locals := 90 } : Room)
set_option maxHeartbeats 4000000 in
set_option maxRecDepth 100000 in
theorem c_X4_upOf (l : Launch) (D : va_G) (cI cZ : ClassId) (h m1 m4 m5 m6 m7 m8 m9 m21 m22 m23 m24 m25 m26 m30 m31 m32 m33 m34 m35 : Nat) (pl nd lk st bo ti te nr ml nn nl du nO nT wm wb ik kt kl : Int) (hh : Int64) (pg dl er ra ck fa ft nw tu tc tr tf tt kc kr ke kd kf kg : Nat → Int) (v : Nat) (hv : v < 6) (hnd : 0 ≤ nd ∧ nd ≤ 6) (hdl : ∀ k : Nat, k < 36 → dl k = -100000001 ∨ (0 ≤ dl k ∧ dl k ≤ 3)) (hck : ∀ k : Nat, k < 24 → 0 ≤ ck k ∧ ck k ≤ 50000000) (her : ∀ k : Nat, k < 36 → -9 ≤ er k ∧ er k ≤ 9) (hst : 1 ≤ st ∧ st ≤ 500) : kRO l yX4_upOf wsX4_upOf rm_X4_upOf D cI cZ [.ref h, .int (iI (v : Int))] (mdW cI cZ h m1 m4 m5 m6 m7 m8 m9 m21 m22 m23 m24 m25 m26 m30 m31 m32 m33 m34 m35 pl nd lk st bo ti te nr ml nn nl du nO nT wm wb ik kt kl hh pg dl er ra ck fa ft nw tu tc tr tf tt kc kr ke kd kf kg) (some (.int (iI (mUp st (mOf ck dl er nd 1 v nd.toNat) (mOf ck dl er nd 0 v nd.toNat))))) := by
  refine kx_ROi (cc := cX4_upOf) (maxL := 3) (by decide) rfl (Nat.le_of_ble_eq_true rfl) ?_
  intro pr en s mi args below meth co Q hx hb hml hown hts hK hP hret ls hl
  have hown : s.vm.findClass RX4 = some mi.cls := hown
  have hl : lv_has ls 3 [(0, .ref h), (1, .int (iI (v : Int)))] := hl
  have hof0 := mOf_rng (a := 0) (v := v) hck her hdl hnd nd.toNat
  have hof1 := mOf_rng (a := 1) (v := v) hck her hdl hnd nd.toNat
  have hof2 := mOf_rng (a := 1) (v := v) hck her hdl hnd nd.toNat
  have hbd := mTr_bd (a := (mOf ck dl er nd 0 v nd.toNat)) (b := (mOf ck dl er nd 1 v nd.toNat)) hst (Or.inl rfl : (1 : Int) = 1 ∨ (1 : Int) = 2) (by omega)
  refine lv_aload_n hx hb dX4_upOf_0 rfl (lv_at hl 0 rfl) ?_
  refine lv_aload_n hx hb dX4_upOf_1 rfl (lv_at hl 0 rfl) ?_
  refine lv_iload_n hx hb dX4_upOf_2 rfl (lv_at hl 1 rfl) ?_
  refine kx_const (z := 0) hx hb dX4_upOf_3 rfl ?_
  refine kx_cV (As := [.int (iI (v : Int)), .int (iI 0)]) (rest := [.ref h]) (st1 := [.int (iI (mOf ck dl er nd 0 v nd.toNat)), .ref h]) (q0 := 0) (ci := 4) ⟨hx, hb, hml, hown, hts⟩ (c_X4_off l D cI cZ h m1 m4 m5 m6 m7 m8 m9 m21 m22 m23 m24 m25 m26 m30 m31 m32 m33 m34 m35 pl nd lk st bo ti te nr ml nn nl du nO nT wm wb ik kt kl hh pg dl er ra ck fa ft nw tu tc tr tf tt kc kr ke kd kf kg v 0 (by first | assumption | omega) (by first | assumption | omega) (by first | assumption | omega) (by first | assumption | omega) (by first | assumption | omega) (by first | assumption | omega)) (cwV 2 hts gX4_upOf_X4_off rfl rfl rfl (by decide +kernel) ⟨Nat.le_of_ble_eq_true rfl, Nat.le_of_ble_eq_true rfl⟩) hK hP rfl rfl rfl hl.1 rfl (Nat.le_of_ble_eq_true rfl) dX4_upOf_4 ⟨Nat.zero_le _, Nat.zero_le _⟩ rfl ?_
  refine lv_aload_n hx hb dX4_upOf_7 rfl (lv_at hl 0 rfl) ?_
  refine lv_iload_n hx hb dX4_upOf_8 rfl (lv_at hl 1 rfl) ?_
  refine kx_const (z := 1) hx hb dX4_upOf_9 rfl ?_
  refine kx_cV (As := [.int (iI (v : Int)), .int (iI 1)]) (rest := [.int (iI (mOf ck dl er nd 0 v nd.toNat)), .ref h]) (st1 := [.int (iI (mOf ck dl er nd 1 v nd.toNat)), .int (iI (mOf ck dl er nd 0 v nd.toNat)), .ref h]) (q0 := 0) (ci := 4) ⟨hx, hb, hml, hown, hts⟩ (c_X4_off l D cI cZ h m1 m4 m5 m6 m7 m8 m9 m21 m22 m23 m24 m25 m26 m30 m31 m32 m33 m34 m35 pl nd lk st bo ti te nr ml nn nl du nO nT wm wb ik kt kl hh pg dl er ra ck fa ft nw tu tc tr tf tt kc kr ke kd kf kg v 1 (by first | assumption | omega) (by first | assumption | omega) (by first | assumption | omega) (by first | assumption | omega) (by first | assumption | omega) (by first | assumption | omega)) (cwV 2 hts gX4_upOf_X4_off rfl rfl rfl (by decide +kernel) ⟨Nat.le_of_ble_eq_true rfl, Nat.le_of_ble_eq_true rfl⟩) hK hP rfl rfl rfl hl.1 rfl (Nat.le_of_ble_eq_true rfl) dX4_upOf_10 ⟨Nat.zero_le _, Nat.zero_le _⟩ rfl ?_
  refine kx_const (z := 1) hx hb dX4_upOf_13 rfl ?_
  refine kx_cV (As := [.int (iI (mOf ck dl er nd 0 v nd.toNat)), .int (iI (mOf ck dl er nd 1 v nd.toNat)), .int (iI 1)]) (rest := []) (st1 := [.int (iI (mTr st (mOf ck dl er nd 0 v nd.toNat) (mOf ck dl er nd 1 v nd.toNat) 1))]) (q0 := 0) (ci := 4) ⟨hx, hb, hml, hown, hts⟩ (c_X4_trigger l D cI cZ h m1 m4 m5 m6 m7 m8 m9 m21 m22 m23 m24 m25 m26 m30 m31 m32 m33 m34 m35 pl nd lk st bo ti te nr ml nn nl du nO nT wm wb ik kt kl hh pg dl er ra ck fa ft nw tu tc tr tf tt kc kr ke kd kf kg (mOf ck dl er nd 0 v nd.toNat) (mOf ck dl er nd 1 v nd.toNat) 1 (by first | assumption | omega) (by first | assumption | omega) (by first | assumption | omega) (by first | assumption | omega)) (cwV 3 hts gX4_upOf_X4_trigger rfl rfl rfl (by decide +kernel) ⟨Nat.le_of_ble_eq_true rfl, Nat.le_of_ble_eq_true rfl⟩) hK hP rfl rfl rfl hl.1 rfl (Nat.le_of_ble_eq_true rfl) dX4_upOf_14 ⟨Nat.zero_le _, Nat.zero_le _⟩ rfl ?_
  refine lv_istore_n (lv' := [(2, .int (iI (mTr st (mOf ck dl er nd 0 v nd.toNat) (mOf ck dl er nd 1 v nd.toNat) 1))), (0, .ref h), (1, .int (iI (v : Int)))]) hx hb dX4_upOf_17 rfl hl (by decide) rfl (fun ls hl => ?_)
  refine lv_iload_n hx hb dX4_upOf_18 rfl (lv_at hl 0 rfl) ?_
  refine kx_ldc (z := -100000001) hx hb hown (hts (.constant RX4 96 (-100000001)) (by decide +kernel)) dX4_upOf_19 (by decide) ?_
  refine kx_icmp_ne (tgt := 29) hx hb (by omega) (by omega) dX4_upOf_21 (by decide) (fun h21 => ?_) (fun h21 => ?_)
  · skip
    refine lv_iload_n hx hb dX4_upOf_29 rfl (lv_at hl 0 rfl) ?_
    refine kx_const (z := 1) hx hb dX4_upOf_30 rfl ?_
    refine kx_isub hx hb dX4_upOf_31 ?_
    refine kx_const (z := 2) hx hb dX4_upOf_32 rfl ?_
    refine kx_idiv hx hb (by omega) (by omega) dX4_upOf_33 ?_
    refine kx_top (b := (mUp st (mOf ck dl er nd 1 v nd.toNat) (mOf ck dl er nd 0 v nd.toNat))) (by first | (rw [mUp, if_pos (by omega)]) | (rw [mUp, if_neg (by omega)])) ?_
    exact hret _ _ dX4_upOf_34
  · skip
    refine kx_ldc (z := -100000001) hx hb hown (hts (.constant RX4 96 (-100000001)) (by decide +kernel)) dX4_upOf_24 (by decide) ?_
    refine lv_goto (tgt := 34) hx hb dX4_upOf_26 (by decide) ?_
    refine kx_top (b := (mUp st (mOf ck dl er nd 1 v nd.toNat) (mOf ck dl er nd 0 v nd.toNat))) (by first | (rw [mUp, if_pos (by omega)]) | (rw [mUp, if_neg (by omega)])) ?_
    exact hret _ _ dX4_upOf_34
def rm_X4_downOf : Room := ({ frames := 4, cells := 0, slots := 0, locals := 90 } : Room)
set_option maxHeartbeats 4000000 in
set_option maxRecDepth 100000 in
theorem c_X4_downOf (l : Launch) (D : va_G) (cI cZ : ClassId) (h m1 m4 m5 m6 m7 m8 m9 m21 m22 m23 m24 m25 m26 m30 m31 m32 m33 m34 m35 : Nat) (pl nd lk st bo ti te nr ml nn nl du nO nT wm wb ik kt kl : Int) (hh : Int64) (pg dl er ra ck fa ft nw tu tc tr tf tt kc kr ke kd kf kg : Nat → Int) (v : Nat) (hv : v < 6) (hnd : 0 ≤ nd ∧ nd ≤ 6) (hdl : ∀ k : Nat, k < 36 → dl k = -100000001 ∨ (0 ≤ dl k ∧ dl k ≤ 3)) (hck : ∀ k : Nat, k < 24 → 0 ≤ ck k ∧ ck k ≤ 50000000) (her : ∀ k : Nat, k < 36 → -9 ≤ er k ∧ er k ≤ 9) (hst : 1 ≤ st ∧ st ≤ 500) : kRO l yX4_downOf wsX4_downOf rm_X4_downOf D cI cZ [.ref h, .int (iI (v : Int))] (mdW cI cZ h m1 m4 m5 m6 m7 m8 m9 m21 m22 m23 m24 m25 m26 m30 m31 m32 m33 m34 m35 pl nd lk st bo ti te nr ml nn nl du nO nT wm wb ik kt kl hh pg dl er ra ck fa ft nw tu tc tr tf tt kc kr ke kd kf kg) (some (.int (iI (mDn st (mOf ck dl er nd 1 v nd.toNat) (mOf ck dl er nd 0 v nd.toNat))))) := by
  refine kx_ROi (cc := cX4_downOf) (maxL := 3) (by decide) rfl (Nat.le_of_ble_eq_true rfl) ?_
  intro pr en s mi args below meth co Q hx hb hml hown hts hK hP hret ls hl
  have hown : s.vm.findClass RX4 = some mi.cls := hown
  have hl : lv_has ls 3 [(0, .ref h), (1, .int (iI (v : Int)))] := hl
  have hof0 := mOf_rng (a := 0) (v := v) hck her hdl hnd nd.toNat
  have hof1 := mOf_rng (a := 1) (v := v) hck her hdl hnd nd.toNat
  have hof2 := mOf_rng (a := 1) (v := v) hck her hdl hnd nd.toNat
  have hbd := mTr_bd (a := (mOf ck dl er nd 1 v nd.toNat)) (b := (mOf ck dl er nd 0 v nd.toNat)) hst (Or.inr rfl : (2 : Int) = 1 ∨ (2 : Int) = 2) (by omega)
  refine lv_aload_n hx hb dX4_downOf_0 rfl (lv_at hl 0 rfl) ?_
  refine lv_aload_n hx hb dX4_downOf_1 rfl (lv_at hl 0 rfl) ?_
  refine lv_iload_n hx hb dX4_downOf_2 rfl (lv_at hl 1 rfl) ?_
  refine kx_const (z := 1) hx hb dX4_downOf_3 rfl ?_
  refine kx_cV (As := [.int (iI (v : Int)), .int (iI 1)]) (rest := [.ref h]) (st1 := [.int (iI (mOf ck dl er nd 1 v nd.toNat)), .ref h]) (q0 := 0) (ci := 4) ⟨hx, hb, hml, hown, hts⟩ (c_X4_off l D cI cZ h m1 m4 m5 m6 m7 m8 m9 m21 m22 m23 m24 m25 m26 m30 m31 m32 m33 m34 m35 pl nd lk st bo ti te nr ml nn nl du nO nT wm wb ik kt kl hh pg dl er ra ck fa ft nw tu tc tr tf tt kc kr ke kd kf kg v 1 (by first | assumption | omega) (by first | assumption | omega) (by first | assumption | omega) (by first | assumption | omega) (by first | assumption | omega) (by first | assumption | omega)) (cwV 2 hts gX4_downOf_X4_off rfl rfl rfl (by decide +kernel) ⟨Nat.le_of_ble_eq_true rfl, Nat.le_of_ble_eq_true rfl⟩) hK hP rfl rfl rfl hl.1 rfl (Nat.le_of_ble_eq_true rfl) dX4_downOf_4 ⟨Nat.zero_le _, Nat.zero_le _⟩ rfl ?_
  refine lv_aload_n hx hb dX4_downOf_7 rfl (lv_at hl 0 rfl) ?_
  refine lv_iload_n hx hb dX4_downOf_8 rfl (lv_at hl 1 rfl) ?_
  refine kx_const (z := 0) hx hb dX4_downOf_9 rfl ?_
  refine kx_cV (As := [.int (iI (v : Int)), .int (iI 0)]) (rest := [.int (iI (mOf ck dl er nd 1 v nd.toNat)), .ref h]) (st1 := [.int (iI (mOf ck dl er nd 0 v nd.toNat)), .int (iI (mOf ck dl er nd 1 v nd.toNat)), .ref h]) (q0 := 0) (ci := 4) ⟨hx, hb, hml, hown, hts⟩ (c_X4_off l D cI cZ h m1 m4 m5 m6 m7 m8 m9 m21 m22 m23 m24 m25 m26 m30 m31 m32 m33 m34 m35 pl nd lk st bo ti te nr ml nn nl du nO nT wm wb ik kt kl hh pg dl er ra ck fa ft nw tu tc tr tf tt kc kr ke kd kf kg v 0 (by first | assumption | omega) (by first | assumption | omega) (by first | assumption | omega) (by first | assumption | omega) (by first | assumption | omega) (by first | assumption | omega)) (cwV 2 hts gX4_downOf_X4_off rfl rfl rfl (by decide +kernel) ⟨Nat.le_of_ble_eq_true rfl, Nat.le_of_ble_eq_true rfl⟩) hK hP rfl rfl rfl hl.1 rfl (Nat.le_of_ble_eq_true rfl) dX4_downOf_10 ⟨Nat.zero_le _, Nat.zero_le _⟩ rfl ?_
  refine kx_const (z := 2) hx hb dX4_downOf_13 rfl ?_
  refine kx_cV (As := [.int (iI (mOf ck dl er nd 1 v nd.toNat)), .int (iI (mOf ck dl er nd 0 v nd.toNat)), .int (iI 2)]) (rest := []) (st1 := [.int (iI (mTr st (mOf ck dl er nd 1 v nd.toNat) (mOf ck dl er nd 0 v nd.toNat) 2))]) (q0 := 0) (ci := 4) ⟨hx, hb, hml, hown, hts⟩ (c_X4_trigger l D cI cZ h m1 m4 m5 m6 m7 m8 m9 m21 m22 m23 m24 m25 m26 m30 m31 m32 m33 m34 m35 pl nd lk st bo ti te nr ml nn nl du nO nT wm wb ik kt kl hh pg dl er ra ck fa ft nw tu tc tr tf tt kc kr ke kd kf kg (mOf ck dl er nd 1 v nd.toNat) (mOf ck dl er nd 0 v nd.toNat) 2 (by first | assumption | omega) (by first | assumption | omega) (by first | assumption | omega) (by first | assumption | omega)) (cwV 3 hts gX4_downOf_X4_trigger rfl rfl rfl (by decide +kernel) ⟨Nat.le_of_ble_eq_true rfl, Nat.le_of_ble_eq_true rfl⟩) hK hP rfl rfl rfl hl.1 rfl (Nat.le_of_ble_eq_true rfl) dX4_downOf_14 ⟨Nat.zero_le _, Nat.zero_le _⟩ rfl ?_
  refine lv_istore_n (lv' := [(2, .int (iI (mTr st (mOf ck dl er nd 1 v nd.toNat) (mOf ck dl er nd 0 v nd.toNat) 2))), (0, .ref h), (1, .int (iI (v : Int)))]) hx hb dX4_downOf_17 rfl hl (by decide) rfl (fun ls hl => ?_)
  refine lv_iload_n hx hb dX4_downOf_18 rfl (lv_at hl 0 rfl) ?_
  refine kx_ldc (z := -100000001) hx hb hown (hts (.constant RX4 96 (-100000001)) (by decide +kernel)) dX4_downOf_19 (by decide) ?_
  refine kx_icmp_ne (tgt := 29) hx hb (by omega) (by omega) dX4_downOf_21 (by decide) (fun h21 => ?_) (fun h21 => ?_)
  · skip
    refine lv_iload_n hx hb dX4_downOf_29 rfl (lv_at hl 0 rfl) ?_
    refine kx_const (z := 2) hx hb dX4_downOf_30 rfl ?_
    refine kx_idiv hx hb (by omega) (by omega) dX4_downOf_31 ?_
    refine kx_top (b := (mDn st (mOf ck dl er nd 1 v nd.toNat) (mOf ck dl er nd 0 v nd.toNat))) (by first | (rw [mDn, if_pos (by omega)]) | (rw [mDn, if_neg (by omega)])) ?_
    exact hret _ _ dX4_downOf_32
  · skip
    refine kx_ldc (z := -100000001) hx hb hown (hts (.constant RX4 96 (-100000001)) (by decide +kernel)) dX4_downOf_24 (by decide) ?_
    refine lv_goto (tgt := 32) hx hb dX4_downOf_26 (by decide) ?_
    refine kx_top (b := (mDn st (mOf ck dl er nd 1 v nd.toNat) (mOf ck dl er nd 0 v nd.toNat))) (by first | (rw [mDn, if_pos (by omega)]) | (rw [mDn, if_neg (by omega)])) ?_
    exact hret _ _ dX4_downOf_32
