def rm_X4_takesDigit : Room := ({ frames := 1, cells := 0, slots := 0, locals := 22 } : Room)
set_option maxHeartbeats 4000000 in
set_option maxRecDepth 100000 in
theorem c_X4_takesDigit (l : Launch) (D : va_G) (cI cZ : ClassId) (h m1 m4 m5 m6 m7 m8 m9 m21 m22 m23 m24 m25 m26 m30 m31 m32 m33 m34 m35 : Nat) (pl nd lk st bo ti te nr ml nn nl du nO nT wm wb ik kt kl : Int) (hh : Int64) (pg dl er ra ck fa ft nw tu tc tr tf tt kc kr ke kd kf kg : Nat → Int) (z : Int) (k : Nat) (hAS : AS pg k nn nl du nO nT nw) (hfi : ∀ j : Nat, j < k → fit pg j = true) (hk : 0 < k) (hdu : du ≠ 0) (hz : z = tD pg k) (hzr : -1000 ≤ z ∧ z ≤ 1000) : kWR l yX4_takesDigit wsX4_takesDigit rm_X4_takesDigit D cI cZ [.ref h, .int (iI z)] (mdW cI cZ h m1 m4 m5 m6 m7 m8 m9 m21 m22 m23 m24 m25 m26 m30 m31 m32 m33 m34 m35 pl nd lk st bo ti te nr ml nn nl du nO nT wm wb ik kt kl hh pg dl er ra ck fa ft nw tu tc tr tf tt kc kr ke kd kf kg) (fun u : Int × Int × Int × Int × Int × (Nat → Int) => some (.int (iI (if fit pg k = true then 1 else 0)))) (fun u : Int × Int × Int × Int × Int × (Nat → Int) => fit pg k = true → AS pg (k + 1) u.1 u.2.1 u.2.2.1 u.2.2.2.1 u.2.2.2.2.1 u.2.2.2.2.2) (fun u : Int × Int × Int × Int × Int × (Nat → Int) => mdW cI cZ h m1 m4 m5 m6 m7 m8 m9 m21 m22 m23 m24 m25 m26 m30 m31 m32 m33 m34 m35 pl nd lk st bo ti te nr ml u.1 u.2.1 u.2.2.1 u.2.2.2.1 u.2.2.2.2.1 wm wb ik kt kl hh pg dl er ra ck fa ft u.2.2.2.2.2 tu tc tr tf tt kc kr ke kd kf kg) 0 0 := by
  refine kx_WRz (cc := cX4_takesDigit) (maxL := 3) (by decide) rfl (Nat.le_of_ble_eq_true rfl) ?_
  intro pr en s mi args below meth co Q A hx hb hml hown hts hK hin hA hP hD hS hret ls hl
  have hown : s.vm.findClass RX4 = some mi.cls := hown
  have iX4 : ∀ w ∈ wsX40, w ∈ wsX4_takesDigit := by decide +kernel
  have hl : lv_has ls 3 [(0, .ref h), (1, .int (iI z))] := hl
  generalize hH0 : s.heap = H0 at hA hP hS hret ⊢
  obtain ⟨H, hH⟩ : ∃ H : Heap, H = H0 := ⟨_, rfl⟩
  obtain ⟨locs, hlocs⟩ : ∃ locs : List Loc, locs = [] := ⟨_, rfl⟩
  have hS : va_S A H0 H locs := by rw [hH, hlocs]; exact hS
  have hP : va_P D vwCl (mdW cI cZ h m1 m4 m5 m6 m7 m8 m9 m21 m22 m23 m24 m25 m26 m30 m31 m32 m33 m34 m35 pl nd lk st bo ti te nr ml nn nl du nO nT wm wb ik kt kl hh pg dl er ra ck fa ft nw tu tc tr tf tt kc kr ke kd kf kg) H := by rw [hH]; exact hP
  suffices hgo : W pr l en rm_X4_takesDigit s mi args below meth co H locs 0 0 Q (F0 mi 0 ls []) by rw [hH, hlocs] at hgo; exact hgo
  clear hH hlocs
  obtain ⟨f1, f2, f3, f4, f5⟩ := AS_facts hAS hfi hk
  obtain ⟨-, a1, a2, a3, a4⟩ := id hAS
  obtain ⟨b1, b2, b3⟩ := a1 hk
  refine lv_aload_n hx hb dX4_takesDigit_0 rfl (lv_at hl 0 rfl) ?_
  refine va_get (D := D) (ci := 4) (v := .int (iI du)) (C := RX4) (T := TX4) (N := 39) hx hb hts iX4 hown hK.1 hP 0 rfl rfl 18 (by decide) (hts (.fieldLink RX4 84 "CloseClocksModel" "due" "I") (by decide +kernel)) (fun _ h9 => h9) rfl dX4_takesDigit_1 ?_
  refine kx_const (z := 1) hx hb dX4_takesDigit_4 rfl ?_
  refine kx_icmp_ne (tgt := 30) hx hb (by omega) (by omega) dX4_takesDigit_5 (by decide) (fun h5 => ?_) (fun h5 => ?_)
  · skip
    refine lv_aload_n hx hb dX4_takesDigit_30 rfl (lv_at hl 0 rfl) ?_
    refine va_get (D := D) (ci := 4) (v := .int (iI du)) (C := RX4) (T := TX4) (N := 39) hx hb hts iX4 hown hK.1 hP 0 rfl rfl 18 (by decide) (hts (.fieldLink RX4 84 "CloseClocksModel" "due" "I") (by decide +kernel)) (fun _ h9 => h9) rfl dX4_takesDigit_31 ?_
    refine kx_const (z := 2) hx hb dX4_takesDigit_34 rfl ?_
    refine kx_icmp_ne (tgt := 95) hx hb (by omega) (by omega) dX4_takesDigit_35 (by decide) (fun h35 => ?_) (fun h35 => ?_)
    · skip
      refine lv_iload_n hx hb dX4_takesDigit_95 rfl (lv_at hl 1 rfl) ?_
      refine kx_const (z := 0) hx hb dX4_takesDigit_96 rfl ?_
      refine kx_const (z := 3) hx hb dX4_takesDigit_97 rfl ?_
      refine kx_cS (As := [.int (iI z), .int (iI 0), .int (iI 3)]) (rest := []) (st1 := [.int (iI (if (0 ≤ z ∧ z ≤ 3) then 1 else 0))]) ⟨hx, hb, hml, hown, hts⟩ (c_X4_within l D cI cZ z 0 3 (by first | assumption | omega) (by first | assumption | omega) (by first | assumption | omega)) (va_cwS 3 hts gX4_takesDigit_X4_within rfl rfl rfl (by decide +kernel) ⟨Nat.le_of_ble_eq_true rfl, Nat.le_of_ble_eq_true rfl⟩) hK (hP.sub (ws' := []) [] rfl) rfl hl.1 rfl (Nat.le_of_ble_eq_true rfl) dX4_takesDigit_98 ⟨Nat.zero_le _, Nat.zero_le _⟩ rfl ?_
      refine lv_istore_n (lv' := [(2, .int (iI (if (0 ≤ z ∧ z ≤ 3) then 1 else 0))), (0, .ref h), (1, .int (iI z))]) hx hb dX4_takesDigit_101 rfl hl (by decide) rfl (fun ls hl => ?_)
      refine lv_iload_n hx hb dX4_takesDigit_102 rfl (lv_at hl 0 rfl) ?_
      refine kx_if_eqB (tgt := 157) hx hb dX4_takesDigit_103 (by decide) (fun h103 => ?_) (fun h103 => ?_)
      · skip
        refine lv_iload_n hx hb dX4_takesDigit_157 rfl (lv_at hl 0 rfl) ?_
        by_cases hz9 : (0 ≤ z ∧ z ≤ 3)
        · rw [if_pos hz9]; exact hret (nn, nl, du, nO, nT, nw) 1 H locs _ _ (Or.inl ⟨rfl, by first | exact (fit4 (by omega) (by omega)).mpr (by omega) | (exfalso; omega)⟩) (by dsimp only; exact fun qf => by first | (exact ⟨fun q => by omega, fun _ => ⟨b1, by omega, by omega⟩, fun _ q => by omega, fun _ q => by omega, by show va_up (va_up nw _ z) _ z = _; rw [a4, show (k + 1 - 1) / 4 = (k - 1) / 4 + 1 by omega, lkM, hz, a5.1, a5.2, show 2 + 4 * ((k - 1) / 4) = k - 2 by omega, show 3 + 4 * ((k - 1) / 4) = k - 1 by omega, show 4 + 4 * ((k - 1) / 4) = k by omega]⟩) | (exfalso; have := (fit4 (by omega) (by omega)).mp qf; omega)) hP hD hS dX4_takesDigit_158
        · rw [if_neg hz9]; exact hret (nn, nl, du, nO, nT, nw) 0 H locs _ _ (Or.inr ⟨rfl, by rw [fit4 (by omega) (by omega)]; omega⟩) (by dsimp only; exact fun qf => by first | (exact ⟨fun q => by omega, fun _ => ⟨b1, by omega, by omega⟩, fun _ q => by omega, fun _ q => by omega, by show va_up (va_up nw _ z) _ z = _; rw [a4, show (k + 1 - 1) / 4 = (k - 1) / 4 + 1 by omega, lkM, hz, a5.1, a5.2, show 2 + 4 * ((k - 1) / 4) = k - 2 by omega, show 3 + 4 * ((k - 1) / 4) = k - 1 by omega, show 4 + 4 * ((k - 1) / 4) = k by omega]⟩) | (exfalso; have := (fit4 (by omega) (by omega)).mp qf; omega)) hP hD hS dX4_takesDigit_158
      · skip
        have f6 := f4 (by omega)
        have a5 := a3 hk (by omega)
        refine lv_aload_n hx hb dX4_takesDigit_106 rfl (lv_at hl 1 rfl) ?_
        refine va_get (D := D) (ci := 4) (v := .ref m21) (C := RX4) (T := TX4) (N := 39) hx hb hts iX4 hown hK.1 hP 0 rfl rfl 21 (by decide) (hts (.fieldLink RX4 39 "CloseClocksModel" "newDelays" "[I") (by decide +kernel)) (fun _ h9 => h9) rfl dX4_takesDigit_107 ?_
        refine kx_bipush (z := 6) hx hb dX4_takesDigit_110 (by decide) ?_
        refine lv_aload_n hx hb dX4_takesDigit_112 rfl (lv_at hl 1 rfl) ?_
        refine va_get (D := D) (ci := 4) (v := .int (iI nO)) (C := RX4) (T := TX4) (N := 39) hx hb hts iX4 hown hK.1 hP 0 rfl rfl 19 (by decide) (hts (.fieldLink RX4 87 "CloseClocksModel" "newOne" "I") (by decide +kernel)) (fun _ h9 => h9) rfl dX4_takesDigit_113 ?_
        refine kx_imul hx hb dX4_takesDigit_116 ?_
        refine lv_aload_n hx hb dX4_takesDigit_117 rfl (lv_at hl 1 rfl) ?_
        refine va_get (D := D) (ci := 4) (v := .int (iI nT)) (C := RX4) (T := TX4) (N := 39) hx hb hts iX4 hown hK.1 hP 0 rfl rfl 20 (by decide) (hts (.fieldLink RX4 93 "CloseClocksModel" "newOther" "I") (by decide +kernel)) (fun _ h9 => h9) rfl dX4_takesDigit_118 ?_
        refine kx_iadd hx hb dX4_takesDigit_121 ?_
        refine lv_iload_n hx hb dX4_takesDigit_122 rfl (lv_at hl 2 rfl) ?_
        refine kx_iast (k := ((6 * nO + nT).toNat)) (x := z) hx hb hK hP hD hS 8 rfl (by omega) (by omega) (by decide) dX4_takesDigit_123 (fun H locs hP hD hS => ?_)
        have hP : va_P D vwCl (mdW cI cZ h m1 m4 m5 m6 m7 m8 m9 m21 m22 m23 m24 m25 m26 m30 m31 m32 m33 m34 m35 pl nd lk st bo ti te nr ml nn nl du nO nT wm wb ik kt kl hh pg dl er ra ck fa ft (va_up nw ((6 * nO + nT).toNat) z) tu tc tr tf tt kc kr ke kd kf kg) H := hP
        have hD : va_D A (mdW cI cZ h m1 m4 m5 m6 m7 m8 m9 m21 m22 m23 m24 m25 m26 m30 m31 m32 m33 m34 m35 pl nd lk st bo ti te nr ml nn nl du nO nT wm wb ik kt kl hh pg dl er ra ck fa ft (va_up nw ((6 * nO + nT).toNat) z) tu tc tr tf tt kc kr ke kd kf kg) := hD
        refine lv_aload_n hx hb dX4_takesDigit_124 rfl (lv_at hl 1 rfl) ?_
        refine va_get (D := D) (ci := 4) (v := .ref m21) (C := RX4) (T := TX4) (N := 39) hx hb hts iX4 hown hK.1 hP 0 rfl rfl 21 (by decide) (hts (.fieldLink RX4 39 "CloseClocksModel" "newDelays" "[I") (by decide +kernel)) (fun _ h9 => h9) rfl dX4_takesDigit_125 ?_
        refine kx_bipush (z := 6) hx hb dX4_takesDigit_128 (by decide) ?_
        refine lv_aload_n hx hb dX4_takesDigit_130 rfl (lv_at hl 1 rfl) ?_
        refine va_get (D := D) (ci := 4) (v := .int (iI nT)) (C := RX4) (T := TX4) (N := 39) hx hb hts iX4 hown hK.1 hP 0 rfl rfl 20 (by decide) (hts (.fieldLink RX4 93 "CloseClocksModel" "newOther" "I") (by decide +kernel)) (fun _ h9 => h9) rfl dX4_takesDigit_131 ?_
        refine kx_imul hx hb dX4_takesDigit_134 ?_
        refine lv_aload_n hx hb dX4_takesDigit_135 rfl (lv_at hl 1 rfl) ?_
        refine va_get (D := D) (ci := 4) (v := .int (iI nO)) (C := RX4) (T := TX4) (N := 39) hx hb hts iX4 hown hK.1 hP 0 rfl rfl 19 (by decide) (hts (.fieldLink RX4 87 "CloseClocksModel" "newOne" "I") (by decide +kernel)) (fun _ h9 => h9) rfl dX4_takesDigit_136 ?_
        refine kx_iadd hx hb dX4_takesDigit_139 ?_
        refine lv_iload_n hx hb dX4_takesDigit_140 rfl (lv_at hl 2 rfl) ?_
        refine kx_iast (k := ((6 * nT + nO).toNat)) (x := z) hx hb hK hP hD hS 8 rfl (by omega) (by omega) (by decide) dX4_takesDigit_141 (fun H locs hP hD hS => ?_)
        have hP : va_P D vwCl (mdW cI cZ h m1 m4 m5 m6 m7 m8 m9 m21 m22 m23 m24 m25 m26 m30 m31 m32 m33 m34 m35 pl nd lk st bo ti te nr ml nn nl du nO nT wm wb ik kt kl hh pg dl er ra ck fa ft (va_up (va_up nw ((6 * nO + nT).toNat) z) ((6 * nT + nO).toNat) z) tu tc tr tf tt kc kr ke kd kf kg) H := hP
        have hD : va_D A (mdW cI cZ h m1 m4 m5 m6 m7 m8 m9 m21 m22 m23 m24 m25 m26 m30 m31 m32 m33 m34 m35 pl nd lk st bo ti te nr ml nn nl du nO nT wm wb ik kt kl hh pg dl er ra ck fa ft (va_up (va_up nw ((6 * nO + nT).toNat) z) ((6 * nT + nO).toNat) z) tu tc tr tf tt kc kr ke kd kf kg) := hD
        refine lv_aload_n hx hb dX4_takesDigit_142 rfl (lv_at hl 1 rfl) ?_
        refine lv_dup hx hb dX4_takesDigit_143 rfl ?_
        refine va_get (D := D) (ci := 4) (v := .int (iI nl)) (C := RX4) (T := TX4) (N := 39) hx hb hts iX4 hown hK.1 hP 0 rfl rfl 17 (by decide) (hts (.fieldLink RX4 97 "CloseClocksModel" "newLinks" "I") (by decide +kernel)) (fun _ h9 => h9) rfl dX4_takesDigit_144 ?_
        refine kx_const (z := 1) hx hb dX4_takesDigit_147 rfl ?_
        refine kx_iadd hx hb dX4_takesDigit_148 ?_
        refine va_put (D := D) (ci := 4) (v := .int (iI (nl + 1))) (ty := .int) (C := RX4) (T := TX4) (N := 39) hx hb hts iX4 tyX4 tyX4_ok nmX4 hown hK.1 hP hD hS 0 rfl rfl 17 (by decide) (hts (.fieldLink RX4 97 "CloseClocksModel" "newLinks" "I") (by decide +kernel)) (fun _ h9 => h9) rfl (by decide +kernel) rfl rfl (Nat.le_of_ble_eq_true rfl) dX4_takesDigit_149 (fun H locs hP hD hS => ?_)
        have hP : va_P D vwCl (mdW cI cZ h m1 m4 m5 m6 m7 m8 m9 m21 m22 m23 m24 m25 m26 m30 m31 m32 m33 m34 m35 pl nd lk st bo ti te nr ml nn (nl + 1) du nO nT wm wb ik kt kl hh pg dl er ra ck fa ft (va_up (va_up nw ((6 * nO + nT).toNat) z) ((6 * nT + nO).toNat) z) tu tc tr tf tt kc kr ke kd kf kg) H := hP
        have hD : va_D A (mdW cI cZ h m1 m4 m5 m6 m7 m8 m9 m21 m22 m23 m24 m25 m26 m30 m31 m32 m33 m34 m35 pl nd lk st bo ti te nr ml nn (nl + 1) du nO nT wm wb ik kt kl hh pg dl er ra ck fa ft (va_up (va_up nw ((6 * nO + nT).toNat) z) ((6 * nT + nO).toNat) z) tu tc tr tf tt kc kr ke kd kf kg) := hD
        refine lv_aload_n hx hb dX4_takesDigit_152 rfl (lv_at hl 1 rfl) ?_
        refine kx_const (z := 0) hx hb dX4_takesDigit_153 rfl ?_
        refine va_put (D := D) (ci := 4) (v := .int (iI 0)) (ty := .int) (C := RX4) (T := TX4) (N := 39) hx hb hts iX4 tyX4 tyX4_ok nmX4 hown hK.1 hP hD hS 0 rfl rfl 18 (by decide) (hts (.fieldLink RX4 84 "CloseClocksModel" "due" "I") (by decide +kernel)) (fun _ h9 => h9) rfl (by decide +kernel) rfl rfl (Nat.le_of_ble_eq_true rfl) dX4_takesDigit_154 (fun H locs hP hD hS => ?_)
        have hP : va_P D vwCl (mdW cI cZ h m1 m4 m5 m6 m7 m8 m9 m21 m22 m23 m24 m25 m26 m30 m31 m32 m33 m34 m35 pl nd lk st bo ti te nr ml nn (nl + 1) 0 nO nT wm wb ik kt kl hh pg dl er ra ck fa ft (va_up (va_up nw ((6 * nO + nT).toNat) z) ((6 * nT + nO).toNat) z) tu tc tr tf tt kc kr ke kd kf kg) H := hP
        have hD : va_D A (mdW cI cZ h m1 m4 m5 m6 m7 m8 m9 m21 m22 m23 m24 m25 m26 m30 m31 m32 m33 m34 m35 pl nd lk st bo ti te nr ml nn (nl + 1) 0 nO nT wm wb ik kt kl hh pg dl er ra ck fa ft (va_up (va_up nw ((6 * nO + nT).toNat) z) ((6 * nT + nO).toNat) z) tu tc tr tf tt kc kr ke kd kf kg) := hD
        refine lv_iload_n hx hb dX4_takesDigit_157 rfl (lv_at hl 0 rfl) ?_
        by_cases hz9 : (0 ≤ z ∧ z ≤ 3)
        · rw [if_pos hz9]; exact hret (nn, (nl + 1), 0, nO, nT, (va_up (va_up nw ((6 * nO + nT).toNat) z) ((6 * nT + nO).toNat) z)) 1 H locs _ _ (Or.inl ⟨rfl, by first | exact (fit4 (by omega) (by omega)).mpr (by omega) | (exfalso; omega)⟩) (by dsimp only; exact fun qf => by first | (exact ⟨fun q => by omega, fun _ => ⟨b1, by omega, by omega⟩, fun _ q => by omega, fun _ q => by omega, by show va_up (va_up nw _ z) _ z = _; rw [a4, show (k + 1 - 1) / 4 = (k - 1) / 4 + 1 by omega, lkM, hz, a5.1, a5.2, show 2 + 4 * ((k - 1) / 4) = k - 2 by omega, show 3 + 4 * ((k - 1) / 4) = k - 1 by omega, show 4 + 4 * ((k - 1) / 4) = k by omega]⟩) | (exfalso; have := (fit4 (by omega) (by omega)).mp qf; omega)) hP hD hS dX4_takesDigit_158
        · rw [if_neg hz9]; exact hret (nn, (nl + 1), 0, nO, nT, (va_up (va_up nw ((6 * nO + nT).toNat) z) ((6 * nT + nO).toNat) z)) 0 H locs _ _ (Or.inr ⟨rfl, by rw [fit4 (by omega) (by omega)]; omega⟩) (by dsimp only; exact fun qf => by first | (exact ⟨fun q => by omega, fun _ => ⟨b1, by omega, by omega⟩, fun _ q => by omega, fun _ q => by omega, by show va_up (va_up nw _ z) _ z = _; rw [a4, show (k + 1 - 1) / 4 = (k - 1) / 4 + 1 by omega, lkM, hz, a5.1, a5.2, show 2 + 4 * ((k - 1) / 4) = k - 2 by omega, show 3 + 4 * ((k - 1) / 4) = k - 1 by omega, show 4 + 4 * ((k - 1) / 4) = k by omega]⟩) | (exfalso; have := (fit4 (by omega) (by omega)).mp qf; omega)) hP hD hS dX4_takesDigit_158
    · skip
      refine lv_aload_n hx hb dX4_takesDigit_38 rfl (lv_at hl 0 rfl) ?_
      refine lv_iload_n hx hb dX4_takesDigit_39 rfl (lv_at hl 1 rfl) ?_
      refine va_put (D := D) (ci := 4) (v := .int (iI z)) (ty := .int) (C := RX4) (T := TX4) (N := 39) hx hb hts iX4 tyX4 tyX4_ok nmX4 hown hK.1 hP hD hS 0 rfl rfl 20 (by decide) (hts (.fieldLink RX4 93 "CloseClocksModel" "newOther" "I") (by decide +kernel)) (fun _ h9 => h9) rfl (by decide +kernel) rfl rfl (Nat.le_of_ble_eq_true rfl) dX4_takesDigit_40 (fun H locs hP hD hS => ?_)
      have hP : va_P D vwCl (mdW cI cZ h m1 m4 m5 m6 m7 m8 m9 m21 m22 m23 m24 m25 m26 m30 m31 m32 m33 m34 m35 pl nd lk st bo ti te nr ml nn nl du nO z wm wb ik kt kl hh pg dl er ra ck fa ft nw tu tc tr tf tt kc kr ke kd kf kg) H := hP
      have hD : va_D A (mdW cI cZ h m1 m4 m5 m6 m7 m8 m9 m21 m22 m23 m24 m25 m26 m30 m31 m32 m33 m34 m35 pl nd lk st bo ti te nr ml nn nl du nO z wm wb ik kt kl hh pg dl er ra ck fa ft nw tu tc tr tf tt kc kr ke kd kf kg) := hD
      refine lv_aload_n hx hb dX4_takesDigit_43 rfl (lv_at hl 0 rfl) ?_
      refine kx_const (z := 3) hx hb dX4_takesDigit_44 rfl ?_
      refine va_put (D := D) (ci := 4) (v := .int (iI 3)) (ty := .int) (C := RX4) (T := TX4) (N := 39) hx hb hts iX4 tyX4 tyX4_ok nmX4 hown hK.1 hP hD hS 0 rfl rfl 18 (by decide) (hts (.fieldLink RX4 84 "CloseClocksModel" "due" "I") (by decide +kernel)) (fun _ h9 => h9) rfl (by decide +kernel) rfl rfl (Nat.le_of_ble_eq_true rfl) dX4_takesDigit_45 (fun H locs hP hD hS => ?_)
      have hP : va_P D vwCl (mdW cI cZ h m1 m4 m5 m6 m7 m8 m9 m21 m22 m23 m24 m25 m26 m30 m31 m32 m33 m34 m35 pl nd lk st bo ti te nr ml nn nl 3 nO z wm wb ik kt kl hh pg dl er ra ck fa ft nw tu tc tr tf tt kc kr ke kd kf kg) H := hP
      have hD : va_D A (mdW cI cZ h m1 m4 m5 m6 m7 m8 m9 m21 m22 m23 m24 m25 m26 m30 m31 m32 m33 m34 m35 pl nd lk st bo ti te nr ml nn nl 3 nO z wm wb ik kt kl hh pg dl er ra ck fa ft nw tu tc tr tf tt kc kr ke kd kf kg) := hD
      refine lv_iload_n hx hb dX4_takesDigit_48 rfl (lv_at hl 1 rfl) ?_
      refine kx_const (z := 0) hx hb dX4_takesDigit_49 rfl ?_
      refine lv_aload_n hx hb dX4_takesDigit_50 rfl (lv_at hl 0 rfl) ?_
      refine va_get (D := D) (ci := 4) (v := .int (iI nn)) (C := RX4) (T := TX4) (N := 39) hx hb hts iX4 hown hK.1 hP 0 rfl rfl 16 (by decide) (hts (.fieldLink RX4 90 "CloseClocksModel" "newNodes" "I") (by decide +kernel)) (fun _ h9 => h9) rfl dX4_takesDigit_51 ?_
      refine kx_const (z := 1) hx hb dX4_takesDigit_54 rfl ?_
      refine kx_isub hx hb dX4_takesDigit_55 ?_
      refine kx_cS (As := [.int (iI z), .int (iI 0), .int (iI (nn - 1))]) (rest := []) (st1 := [.int (iI (if (0 ≤ z ∧ z ≤ (nn - 1)) then 1 else 0))]) ⟨hx, hb, hml, hown, hts⟩ (c_X4_within l D cI cZ z 0 (nn - 1) (by first | assumption | omega) (by first | assumption | omega) (by first | assumption | omega)) (va_cwS 3 hts gX4_takesDigit_X4_within rfl rfl rfl (by decide +kernel) ⟨Nat.le_of_ble_eq_true rfl, Nat.le_of_ble_eq_true rfl⟩) hK (hP.sub (ws' := []) [] rfl) rfl hl.1 rfl (Nat.le_of_ble_eq_true rfl) dX4_takesDigit_56 ⟨Nat.zero_le _, Nat.zero_le _⟩ rfl ?_
      refine kx_if_eqB (tgt := 93) hx hb dX4_takesDigit_59 (by decide) (fun h59 => ?_) (fun h59 => ?_)
      · skip
        refine kx_const (z := 0) hx hb dX4_takesDigit_93 rfl ?_
        exact hret (nn, nl, 3, nO, z, nw) 0 H locs _ _ (Or.inr ⟨rfl, by rw [fit3 (by omega)]; rintro ⟨⟨q1, q2⟩, q3⟩; rw [← a2 hk (by omega), ← hz] at q2 q3; rw [← hz, ← b1] at q1; rw [show (k - 3) / 4 = (k - 1) / 4 by omega] at q3; first | omega | exact h86 (hlook.mpr q3)⟩) (by dsimp only; exact fun _ => ⟨fun q => by omega, fun _ => ⟨b1, by omega, by omega⟩, fun _ q => by omega, fun _ _ => ⟨by rw [hz]; rfl, by rw [a2 hk (by omega)]; rfl⟩, by rw [a4, show (k + 1 - 1) / 4 = (k - 1) / 4 by omega]⟩) hP hD hS dX4_takesDigit_94
      · skip
        have f6 := f3 (by omega)
        have hlook := (lkM_look (t := pg) (by omega) ((k - 1) / 4) (lkOK_of hfi (by omega)) nO.toNat z.toNat (by omega) (by omega)).1
        rw [← a4, show ((nO.toNat : Nat) : Int) = nO by omega, show ((z.toNat : Nat) : Int) = z by omega] at hlook
        refine lv_iload_n hx hb dX4_takesDigit_62 rfl (lv_at hl 1 rfl) ?_
        refine lv_aload_n hx hb dX4_takesDigit_63 rfl (lv_at hl 0 rfl) ?_
        refine va_get (D := D) (ci := 4) (v := .int (iI nO)) (C := RX4) (T := TX4) (N := 39) hx hb hts iX4 hown hK.1 hP 0 rfl rfl 19 (by decide) (hts (.fieldLink RX4 87 "CloseClocksModel" "newOne" "I") (by decide +kernel)) (fun _ h9 => h9) rfl dX4_takesDigit_64 ?_
        refine kx_icmp_eq (tgt := 93) hx hb (by omega) (by omega) dX4_takesDigit_67 (by decide) (fun h67 => ?_) (fun h67 => ?_)
        · skip
          refine kx_const (z := 0) hx hb dX4_takesDigit_93 rfl ?_
          exact hret (nn, nl, 3, nO, z, nw) 0 H locs _ _ (Or.inr ⟨rfl, by rw [fit3 (by omega)]; rintro ⟨⟨q1, q2⟩, q3⟩; rw [← a2 hk (by omega), ← hz] at q2 q3; rw [← hz, ← b1] at q1; rw [show (k - 3) / 4 = (k - 1) / 4 by omega] at q3; first | omega | exact h86 (hlook.mpr q3)⟩) (by dsimp only; exact fun _ => ⟨fun q => by omega, fun _ => ⟨b1, by omega, by omega⟩, fun _ q => by omega, fun _ _ => ⟨by rw [hz]; rfl, by rw [a2 hk (by omega)]; rfl⟩, by rw [a4, show (k + 1 - 1) / 4 = (k - 1) / 4 by omega]⟩) hP hD hS dX4_takesDigit_94
        · skip
          refine lv_aload_n hx hb dX4_takesDigit_70 rfl (lv_at hl 0 rfl) ?_
          refine va_get (D := D) (ci := 4) (v := .ref m21) (C := RX4) (T := TX4) (N := 39) hx hb hts iX4 hown hK.1 hP 0 rfl rfl 21 (by decide) (hts (.fieldLink RX4 39 "CloseClocksModel" "newDelays" "[I") (by decide +kernel)) (fun _ h9 => h9) rfl dX4_takesDigit_71 ?_
          refine kx_bipush (z := 6) hx hb dX4_takesDigit_74 (by decide) ?_
          refine lv_aload_n hx hb dX4_takesDigit_76 rfl (lv_at hl 0 rfl) ?_
          refine va_get (D := D) (ci := 4) (v := .int (iI nO)) (C := RX4) (T := TX4) (N := 39) hx hb hts iX4 hown hK.1 hP 0 rfl rfl 19 (by decide) (hts (.fieldLink RX4 87 "CloseClocksModel" "newOne" "I") (by decide +kernel)) (fun _ h9 => h9) rfl dX4_takesDigit_77 ?_
          refine kx_imul hx hb dX4_takesDigit_80 ?_
          refine lv_iload_n hx hb dX4_takesDigit_81 rfl (lv_at hl 1 rfl) ?_
          refine kx_iadd hx hb dX4_takesDigit_82 ?_
          refine kx_iald (k := (6 * nO.toNat + z.toNat)) hx hb hK hP 8 rfl (by omega) (by omega) (by decide) dX4_takesDigit_83 ?_
          refine kx_ldc (z := -100000001) hx hb hown (hts (.constant RX4 96 (-100000001)) (by decide +kernel)) dX4_takesDigit_84 (by decide) ?_
          refine kx_icmp_ne (tgt := 93) hx hb (by have := f5 (6 * nO.toNat + z.toNat) (by omega); omega) (by omega) dX4_takesDigit_86 (by decide) (fun h86 => ?_) (fun h86 => ?_)
          · skip
            refine kx_const (z := 0) hx hb dX4_takesDigit_93 rfl ?_
            exact hret (nn, nl, 3, nO, z, nw) 0 H locs _ _ (Or.inr ⟨rfl, by rw [fit3 (by omega)]; rintro ⟨⟨q1, q2⟩, q3⟩; rw [← a2 hk (by omega), ← hz] at q2 q3; rw [← hz, ← b1] at q1; rw [show (k - 3) / 4 = (k - 1) / 4 by omega] at q3; first | omega | exact h86 (hlook.mpr q3)⟩) (by dsimp only; exact fun _ => ⟨fun q => by omega, fun _ => ⟨b1, by omega, by omega⟩, fun _ q => by omega, fun _ _ => ⟨by rw [hz]; rfl, by rw [a2 hk (by omega)]; rfl⟩, by rw [a4, show (k + 1 - 1) / 4 = (k - 1) / 4 by omega]⟩) hP hD hS dX4_takesDigit_94
          · skip
            refine kx_const (z := 1) hx hb dX4_takesDigit_89 rfl ?_
            refine lv_goto (tgt := 94) hx hb dX4_takesDigit_90 (by decide) ?_
            exact hret (nn, nl, 3, nO, z, nw) 1 H locs _ _ (Or.inl ⟨rfl, by refine (fit3 (by omega)).mpr ⟨⟨by omega, by rw [← a2 hk (by omega), ← hz]; omega⟩, ?_⟩; rw [← a2 hk (by omega), ← hz, show (k - 3) / 4 = (k - 1) / 4 by omega]; exact hlook.mp h86⟩) (by dsimp only; exact fun _ => ⟨fun q => by omega, fun _ => ⟨b1, by omega, by omega⟩, fun _ q => by omega, fun _ _ => ⟨by rw [hz]; rfl, by rw [a2 hk (by omega)]; rfl⟩, by rw [a4, show (k + 1 - 1) / 4 = (k - 1) / 4 by omega]⟩) hP hD hS dX4_takesDigit_94
  · skip
    refine lv_aload_n hx hb dX4_takesDigit_8 rfl (lv_at hl 0 rfl) ?_
    refine lv_iload_n hx hb dX4_takesDigit_9 rfl (lv_at hl 1 rfl) ?_
    refine va_put (D := D) (ci := 4) (v := .int (iI z)) (ty := .int) (C := RX4) (T := TX4) (N := 39) hx hb hts iX4 tyX4 tyX4_ok nmX4 hown hK.1 hP hD hS 0 rfl rfl 19 (by decide) (hts (.fieldLink RX4 87 "CloseClocksModel" "newOne" "I") (by decide +kernel)) (fun _ h9 => h9) rfl (by decide +kernel) rfl rfl (Nat.le_of_ble_eq_true rfl) dX4_takesDigit_10 (fun H locs hP hD hS => ?_)
    have hP : va_P D vwCl (mdW cI cZ h m1 m4 m5 m6 m7 m8 m9 m21 m22 m23 m24 m25 m26 m30 m31 m32 m33 m34 m35 pl nd lk st bo ti te nr ml nn nl du z nT wm wb ik kt kl hh pg dl er ra ck fa ft nw tu tc tr tf tt kc kr ke kd kf kg) H := hP
    have hD : va_D A (mdW cI cZ h m1 m4 m5 m6 m7 m8 m9 m21 m22 m23 m24 m25 m26 m30 m31 m32 m33 m34 m35 pl nd lk st bo ti te nr ml nn nl du z nT wm wb ik kt kl hh pg dl er ra ck fa ft nw tu tc tr tf tt kc kr ke kd kf kg) := hD
    refine lv_aload_n hx hb dX4_takesDigit_13 rfl (lv_at hl 0 rfl) ?_
    refine kx_const (z := 2) hx hb dX4_takesDigit_14 rfl ?_
    refine va_put (D := D) (ci := 4) (v := .int (iI 2)) (ty := .int) (C := RX4) (T := TX4) (N := 39) hx hb hts iX4 tyX4 tyX4_ok nmX4 hown hK.1 hP hD hS 0 rfl rfl 18 (by decide) (hts (.fieldLink RX4 84 "CloseClocksModel" "due" "I") (by decide +kernel)) (fun _ h9 => h9) rfl (by decide +kernel) rfl rfl (Nat.le_of_ble_eq_true rfl) dX4_takesDigit_15 (fun H locs hP hD hS => ?_)
    have hP : va_P D vwCl (mdW cI cZ h m1 m4 m5 m6 m7 m8 m9 m21 m22 m23 m24 m25 m26 m30 m31 m32 m33 m34 m35 pl nd lk st bo ti te nr ml nn nl 2 z nT wm wb ik kt kl hh pg dl er ra ck fa ft nw tu tc tr tf tt kc kr ke kd kf kg) H := hP
    have hD : va_D A (mdW cI cZ h m1 m4 m5 m6 m7 m8 m9 m21 m22 m23 m24 m25 m26 m30 m31 m32 m33 m34 m35 pl nd lk st bo ti te nr ml nn nl 2 z nT wm wb ik kt kl hh pg dl er ra ck fa ft nw tu tc tr tf tt kc kr ke kd kf kg) := hD
    refine lv_iload_n hx hb dX4_takesDigit_18 rfl (lv_at hl 1 rfl) ?_
    refine kx_const (z := 0) hx hb dX4_takesDigit_19 rfl ?_
    refine lv_aload_n hx hb dX4_takesDigit_20 rfl (lv_at hl 0 rfl) ?_
    refine va_get (D := D) (ci := 4) (v := .int (iI nn)) (C := RX4) (T := TX4) (N := 39) hx hb hts iX4 hown hK.1 hP 0 rfl rfl 16 (by decide) (hts (.fieldLink RX4 90 "CloseClocksModel" "newNodes" "I") (by decide +kernel)) (fun _ h9 => h9) rfl dX4_takesDigit_21 ?_
    refine kx_const (z := 1) hx hb dX4_takesDigit_24 rfl ?_
    refine kx_isub hx hb dX4_takesDigit_25 ?_
    refine kx_cS (As := [.int (iI z), .int (iI 0), .int (iI (nn - 1))]) (rest := []) (st1 := [.int (iI (if (0 ≤ z ∧ z ≤ (nn - 1)) then 1 else 0))]) ⟨hx, hb, hml, hown, hts⟩ (c_X4_within l D cI cZ z 0 (nn - 1) (by first | assumption | omega) (by first | assumption | omega) (by first | assumption | omega)) (va_cwS 3 hts gX4_takesDigit_X4_within rfl rfl rfl (by decide +kernel) ⟨Nat.le_of_ble_eq_true rfl, Nat.le_of_ble_eq_true rfl⟩) hK (hP.sub (ws' := []) [] rfl) rfl hl.1 rfl (Nat.le_of_ble_eq_true rfl) dX4_takesDigit_26 ⟨Nat.zero_le _, Nat.zero_le _⟩ rfl ?_
    by_cases hz9 : (0 ≤ z ∧ z ≤ (nn - 1))
    · rw [if_pos hz9]; exact hret (nn, nl, 2, z, nT, nw) 1 H locs _ _ (Or.inl ⟨rfl, by exact (fit2 (by omega)).mpr (by omega)⟩) (by dsimp only; exact fun _ => ⟨fun q => by omega, fun _ => ⟨b1, by omega, by omega⟩, fun _ _ => by rw [hz]; rfl, fun _ q => by omega, by rw [a4, show (k + 1 - 1) / 4 = (k - 1) / 4 by omega]⟩) hP hD hS dX4_takesDigit_29
    · rw [if_neg hz9]; exact hret (nn, nl, 2, z, nT, nw) 0 H locs _ _ (Or.inr ⟨rfl, by rw [fit2 (by omega)]; omega⟩) (by dsimp only; exact fun _ => ⟨fun q => by omega, fun _ => ⟨b1, by omega, by omega⟩, fun _ _ => by rw [hz]; rfl, fun _ q => by omega, by rw [a4, show (k + 1 - 1) / 4 = (k - 1) / 4 by omega]⟩) hP hD hS dX4_takesDigit_29
def rm_X4_takes : Room := ({ frames := 2, cells := 0, slots := 0, locals := 44 } : Room)
set_option maxHeartbeats 4000000 in
set_option maxRecDepth 100000 in
theorem c_X4_takes (l : Launch) (D : va_G) (cI cZ : ClassId) (h m1 m4 m5 m6 m7 m8 m9 m21 m22 m23 m24 m25 m26 m30 m31 m32 m33 m34 m35 : Nat) (pl nd lk st bo ti te nr ml nn nl du nO nT wm wb ik kt kl : Int) (hh : Int64) (pg dl er ra ck fa ft nw tu tc tr tf tt kc kr ke kd kf kg : Nat → Int) (z : Int) (k : Nat) (hAS : AS pg k nn nl du nO nT nw) (hfi : ∀ j : Nat, j < k → fit pg j = true) (hz : z = pg k) (hzr : 0 ≤ z ∧ z ≤ 126) : kWR l yX4_takes wsX4_takes rm_X4_takes D cI cZ [.ref h, .int (iI z)] (mdW cI cZ h m1 m4 m5 m6 m7 m8 m9 m21 m22 m23 m24 m25 m26 m30 m31 m32 m33 m34 m35 pl nd lk st bo ti te nr ml nn nl du nO nT wm wb ik kt kl hh pg dl er ra ck fa ft nw tu tc tr tf tt kc kr ke kd kf kg) (fun u : Int × Int × Int × Int × Int × (Nat → Int) => some (.int (iI (if fit pg k = true then 1 else 0)))) (fun u : Int × Int × Int × Int × Int × (Nat → Int) => fit pg k = true → AS pg (k + 1) u.1 u.2.1 u.2.2.1 u.2.2.2.1 u.2.2.2.2.1 u.2.2.2.2.2) (fun u : Int × Int × Int × Int × Int × (Nat → Int) => mdW cI cZ h m1 m4 m5 m6 m7 m8 m9 m21 m22 m23 m24 m25 m26 m30 m31 m32 m33 m34 m35 pl nd lk st bo ti te nr ml u.1 u.2.1 u.2.2.1 u.2.2.2.1 u.2.2.2.2.1 wm wb ik kt kl hh pg dl er ra ck fa ft u.2.2.2.2.2 tu tc tr tf tt kc kr ke kd kf kg) 0 0 := by
  refine kx_WRz (cc := cX4_takes) (maxL := 2) (by decide) rfl (Nat.le_of_ble_eq_true rfl) ?_
  intro pr en s mi args below meth co Q A hx hb hml hown hts hK hin hA hP hD hS hret ls hl
  have hown : s.vm.findClass RX4 = some mi.cls := hown
  have iX4 : ∀ w ∈ wsX40, w ∈ wsX4_takes := by decide +kernel
  have hl : lv_has ls 2 [(0, .ref h), (1, .int (iI z))] := hl
  generalize hH0 : s.heap = H0 at hA hP hS hret ⊢
  obtain ⟨H, hH⟩ : ∃ H : Heap, H = H0 := ⟨_, rfl⟩
  obtain ⟨locs, hlocs⟩ : ∃ locs : List Loc, locs = [] := ⟨_, rfl⟩
  have hS : va_S A H0 H locs := by rw [hH, hlocs]; exact hS
  have hP : va_P D vwCl (mdW cI cZ h m1 m4 m5 m6 m7 m8 m9 m21 m22 m23 m24 m25 m26 m30 m31 m32 m33 m34 m35 pl nd lk st bo ti te nr ml nn nl du nO nT wm wb ik kt kl hh pg dl er ra ck fa ft nw tu tc tr tf tt kc kr ke kd kf kg) H := by rw [hH]; exact hP
  suffices hgo : W pr l en rm_X4_takes s mi args below meth co H locs 0 0 Q (F0 mi 0 ls []) by rw [hH, hlocs] at hgo; exact hgo
  clear hH hlocs
  obtain ⟨e1, e2, e3⟩ := AS_pos hAS hfi
  have hzd : z - 48 = tD pg k := by rw [hz]; rfl
  refine lv_aload_n hx hb dX4_takes_0 rfl (lv_at hl 0 rfl) ?_
  refine va_get (D := D) (ci := 4) (v := .int (iI nn)) (C := RX4) (T := TX4) (N := 39) hx hb hts iX4 hown hK.1 hP 0 rfl rfl 16 (by decide) (hts (.fieldLink RX4 90 "CloseClocksModel" "newNodes" "I") (by decide +kernel)) (fun _ h9 => h9) rfl dX4_takes_1 ?_
  refine kx_if_ne (tgt := 43) hx hb (by omega) dX4_takes_4 (by decide) (fun h4 => ?_) (fun h4 => ?_)
  · skip
    have hkp : 0 < k := by omega
    obtain ⟨-, a1, a2, a3, a4⟩ := id hAS
    obtain ⟨b1, b2, b3⟩ := a1 hkp
    refine lv_aload_n hx hb dX4_takes_43 rfl (lv_at hl 0 rfl) ?_
    refine va_get (D := D) (ci := 4) (v := .int (iI du)) (C := RX4) (T := TX4) (N := 39) hx hb hts iX4 hown hK.1 hP 0 rfl rfl 18 (by decide) (hts (.fieldLink RX4 84 "CloseClocksModel" "due" "I") (by decide +kernel)) (fun _ h9 => h9) rfl dX4_takes_44 ?_
    refine kx_if_ne (tgt := 77) hx hb (by omega) dX4_takes_47 (by decide) (fun h47 => ?_) (fun h47 => ?_)
    · skip
      refine lv_aload_n hx hb dX4_takes_77 rfl (lv_at hl 0 rfl) ?_
      refine lv_iload_n hx hb dX4_takes_78 rfl (lv_at hl 1 rfl) ?_
      refine kx_bipush (z := 48) hx hb dX4_takes_79 (by decide) ?_
      refine kx_isub hx hb dX4_takes_81 ?_
      refine kx_cVW (As := [.int (iI (z - 48))]) (rest := []) (wr := []) (q0 := 0) (ci := 4) ⟨hx, hb, hml, hown, hts⟩ (c_X4_takesDigit l D cI cZ h m1 m4 m5 m6 m7 m8 m9 m21 m22 m23 m24 m25 m26 m30 m31 m32 m33 m34 m35 pl nd lk st bo ti te nr ml nn nl du nO nT wm wb ik kt kl hh pg dl er ra ck fa ft nw tu tc tr tf tt kc kr ke kd kf kg (z - 48) k (by first | assumption | omega) (by first | assumption | omega) (by first | assumption | omega) (by first | assumption | omega) (hzd) (by first | assumption | omega)) (cwV 1 hts gX4_takes_X4_takesDigit rfl rfl rfl (by decide +kernel) ⟨Nat.le_of_ble_eq_true rfl, Nat.le_of_ble_eq_true rfl⟩) hK hP hD hS hA [0, 1, 2, 3, 4, 5, 6, 7, 8, 9, 10, 11, 12, 13, 14, 15, 16, 17, 18, 19] [] rfl rfl (by decide) (by decide) (by decide) rfl rfl rfl hl.1 rfl (Nat.le_of_ble_eq_true rfl) dX4_takes_82 ⟨Nat.le_of_ble_eq_true rfl, Nat.le_of_ble_eq_true rfl⟩ (fun u H locs hq hP hD hS => ?_)
      obtain ⟨u_1, u_2, u_3, u_4, u_5, u_6⟩ := u
      have hq9 := hq
      try dsimp only at hq9
      have hP : va_P D vwCl (mdW cI cZ h m1 m4 m5 m6 m7 m8 m9 m21 m22 m23 m24 m25 m26 m30 m31 m32 m33 m34 m35 pl nd lk st bo ti te nr ml u_1 u_2 u_3 u_4 u_5 wm wb ik kt kl hh pg dl er ra ck fa ft u_6 tu tc tr tf tt kc kr ke kd kf kg) H := hP.sub [0, 1, 2, 3, 4, 5, 6, 7, 8, 9, 10, 11, 12, 13, 14, 15, 16, 17, 18, 19] rfl
      have hD : va_D A (mdW cI cZ h m1 m4 m5 m6 m7 m8 m9 m21 m22 m23 m24 m25 m26 m30 m31 m32 m33 m34 m35 pl nd lk st bo ti te nr ml u_1 u_2 u_3 u_4 u_5 wm wb ik kt kl hh pg dl er ra ck fa ft u_6 tu tc tr tf tt kc kr ke kd kf kg) := hD.sub [0, 1, 2, 3, 4, 5, 6, 7, 8, 9, 10, 11, 12, 13, 14, 15, 16, 17, 18, 19] (by decide) rfl
      refine W.eq (g2 := F0 mi 85 ls [.int (iI (if (fit pg k = true) then 1 else 0))]) rfl ?_
      by_cases hz9 : (fit pg k = true)
      · rw [if_pos hz9]; exact hret (u_1, u_2, u_3, u_4, u_5, u_6) 1 H locs _ _ (Or.inl ⟨rfl, by simp_all⟩) (hq9) hP hD hS dX4_takes_85
      · rw [if_neg hz9]; exact hret (u_1, u_2, u_3, u_4, u_5, u_6) 0 H locs _ _ (Or.inr ⟨rfl, by simp_all⟩) (hq9) hP hD hS dX4_takes_85
    · skip
      have hf1 : fit pg k = true ↔ z = 44 := by rw [hz]; exact fit1 (by omega)
      refine lv_aload_n hx hb dX4_takes_50 rfl (lv_at hl 0 rfl) ?_
      refine lv_iload_n hx hb dX4_takes_51 rfl (lv_at hl 1 rfl) ?_
      refine kx_bipush (z := 44) hx hb dX4_takes_52 (by decide) ?_
      refine kx_icmp_ne (tgt := 61) hx hb (by omega) (by omega) dX4_takes_54 (by decide) (fun h54 => ?_) (fun h54 => ?_)
      · skip
        refine kx_const (z := 0) hx hb dX4_takes_61 rfl ?_
        refine va_put (D := D) (ci := 4) (v := .int (iI 0)) (ty := .int) (C := RX4) (T := TX4) (N := 39) hx hb hts iX4 tyX4 tyX4_ok nmX4 hown hK.1 hP hD hS 0 rfl rfl 18 (by decide) (hts (.fieldLink RX4 84 "CloseClocksModel" "due" "I") (by decide +kernel)) (fun _ h9 => h9) rfl (by decide +kernel) rfl rfl (Nat.le_of_ble_eq_true rfl) dX4_takes_62 (fun H locs hP hD hS => ?_)
        have hP : va_P D vwCl (mdW cI cZ h m1 m4 m5 m6 m7 m8 m9 m21 m22 m23 m24 m25 m26 m30 m31 m32 m33 m34 m35 pl nd lk st bo ti te nr ml nn nl 0 nO nT wm wb ik kt kl hh pg dl er ra ck fa ft nw tu tc tr tf tt kc kr ke kd kf kg) H := hP
        have hD : va_D A (mdW cI cZ h m1 m4 m5 m6 m7 m8 m9 m21 m22 m23 m24 m25 m26 m30 m31 m32 m33 m34 m35 pl nd lk st bo ti te nr ml nn nl 0 nO nT wm wb ik kt kl hh pg dl er ra ck fa ft nw tu tc tr tf tt kc kr ke kd kf kg) := hD
        refine lv_iload_n hx hb dX4_takes_65 rfl (lv_at hl 1 rfl) ?_
        refine kx_bipush (z := 44) hx hb dX4_takes_66 (by decide) ?_
        refine kx_icmp_ne (tgt := 75) hx hb (by omega) (by omega) dX4_takes_68 (by decide) (fun h68 => ?_) (fun h68 => ?_)
        · skip
          refine kx_const (z := 0) hx hb dX4_takes_75 rfl ?_
          exact hret (nn, nl, 0, nO, nT, nw) 0 H locs _ _ (Or.inr ⟨rfl, by rw [hf1]; omega⟩) (by dsimp only; exact fun qf => ⟨fun q => by omega, fun _ => ⟨b1, by omega, by have := hf1.mp qf; omega⟩, fun _ q => by omega, fun _ q => by omega, by rw [a4, show (k + 1 - 1) / 4 = (k - 1) / 4 by omega]⟩) hP hD hS dX4_takes_76
        · skip
          refine kx_const (z := 1) hx hb dX4_takes_71 rfl ?_
          refine lv_goto (tgt := 76) hx hb dX4_takes_72 (by decide) ?_
          exact hret (nn, nl, 0, nO, nT, nw) 1 H locs _ _ (Or.inl ⟨rfl, by rw [hf1]; omega⟩) (by dsimp only; exact fun qf => ⟨fun q => by omega, fun _ => ⟨b1, by omega, by have := hf1.mp qf; omega⟩, fun _ q => by omega, fun _ q => by omega, by rw [a4, show (k + 1 - 1) / 4 = (k - 1) / 4 by omega]⟩) hP hD hS dX4_takes_76
      · skip
        refine kx_const (z := 1) hx hb dX4_takes_57 rfl ?_
        refine lv_goto (tgt := 62) hx hb dX4_takes_58 (by decide) ?_
        refine va_put (D := D) (ci := 4) (v := .int (iI 1)) (ty := .int) (C := RX4) (T := TX4) (N := 39) hx hb hts iX4 tyX4 tyX4_ok nmX4 hown hK.1 hP hD hS 0 rfl rfl 18 (by decide) (hts (.fieldLink RX4 84 "CloseClocksModel" "due" "I") (by decide +kernel)) (fun _ h9 => h9) rfl (by decide +kernel) rfl rfl (Nat.le_of_ble_eq_true rfl) dX4_takes_62 (fun H locs hP hD hS => ?_)
        have hP : va_P D vwCl (mdW cI cZ h m1 m4 m5 m6 m7 m8 m9 m21 m22 m23 m24 m25 m26 m30 m31 m32 m33 m34 m35 pl nd lk st bo ti te nr ml nn nl 1 nO nT wm wb ik kt kl hh pg dl er ra ck fa ft nw tu tc tr tf tt kc kr ke kd kf kg) H := hP
        have hD : va_D A (mdW cI cZ h m1 m4 m5 m6 m7 m8 m9 m21 m22 m23 m24 m25 m26 m30 m31 m32 m33 m34 m35 pl nd lk st bo ti te nr ml nn nl 1 nO nT wm wb ik kt kl hh pg dl er ra ck fa ft nw tu tc tr tf tt kc kr ke kd kf kg) := hD
        refine lv_iload_n hx hb dX4_takes_65 rfl (lv_at hl 1 rfl) ?_
        refine kx_bipush (z := 44) hx hb dX4_takes_66 (by decide) ?_
        refine kx_icmp_ne (tgt := 75) hx hb (by omega) (by omega) dX4_takes_68 (by decide) (fun h68 => ?_) (fun h68 => ?_)
        · skip
          refine kx_const (z := 0) hx hb dX4_takes_75 rfl ?_
          exact hret (nn, nl, 1, nO, nT, nw) 0 H locs _ _ (Or.inr ⟨rfl, by rw [hf1]; omega⟩) (by dsimp only; exact fun qf => ⟨fun q => by omega, fun _ => ⟨b1, by omega, by have := hf1.mp qf; omega⟩, fun _ q => by omega, fun _ q => by omega, by rw [a4, show (k + 1 - 1) / 4 = (k - 1) / 4 by omega]⟩) hP hD hS dX4_takes_76
        · skip
          refine kx_const (z := 1) hx hb dX4_takes_71 rfl ?_
          refine lv_goto (tgt := 76) hx hb dX4_takes_72 (by decide) ?_
          exact hret (nn, nl, 1, nO, nT, nw) 1 H locs _ _ (Or.inl ⟨rfl, by rw [hf1]; omega⟩) (by dsimp only; exact fun qf => ⟨fun q => by omega, fun _ => ⟨b1, by omega, by have := hf1.mp qf; omega⟩, fun _ q => by omega, fun _ q => by omega, by rw [a4, show (k + 1 - 1) / 4 = (k - 1) / 4 by omega]⟩) hP hD hS dX4_takes_76
  · skip
    have hk0 : k = 0 := e1.mp h4
    obtain ⟨a0, -, -, -, a4⟩ := id hAS
    have b0 := a0 hk0
    have hf0 : fit pg k = true ↔ (2 ≤ z - 48 ∧ z - 48 ≤ 6) := by rw [hzd, hk0]; exact fit0
    refine lv_aload_n hx hb dX4_takes_7 rfl (lv_at hl 0 rfl) ?_
    refine lv_iload_n hx hb dX4_takes_8 rfl (lv_at hl 1 rfl) ?_
    refine kx_bipush (z := 50) hx hb dX4_takes_9 (by decide) ?_
    refine kx_bipush (z := 54) hx hb dX4_takes_11 (by decide) ?_
    refine kx_cS (As := [.int (iI z), .int (iI 50), .int (iI 54)]) (rest := [.ref h]) (st1 := [.int (iI (if (50 ≤ z ∧ z ≤ 54) then 1 else 0)), .ref h]) ⟨hx, hb, hml, hown, hts⟩ (c_X4_within l D cI cZ z 50 54 (by first | assumption | omega) (by first | assumption | omega) (by first | assumption | omega)) (va_cwS 3 hts gX4_takes_X4_within rfl rfl rfl (by decide +kernel) ⟨Nat.le_of_ble_eq_true rfl, Nat.le_of_ble_eq_true rfl⟩) hK (hP.sub (ws' := []) [] rfl) rfl hl.1 rfl (Nat.le_of_ble_eq_true rfl) dX4_takes_13 ⟨Nat.zero_le _, Nat.zero_le _⟩ rfl ?_
    refine kx_if_eqB (tgt := 26) hx hb dX4_takes_16 (by decide) (fun h16 => ?_) (fun h16 => ?_)
    · skip
      refine kx_const (z := 0) hx hb dX4_takes_26 rfl ?_
      refine va_put (D := D) (ci := 4) (v := .int (iI 0)) (ty := .int) (C := RX4) (T := TX4) (N := 39) hx hb hts iX4 tyX4 tyX4_ok nmX4 hown hK.1 hP hD hS 0 rfl rfl 16 (by decide) (hts (.fieldLink RX4 90 "CloseClocksModel" "newNodes" "I") (by decide +kernel)) (fun _ h9 => h9) rfl (by decide +kernel) rfl rfl (Nat.le_of_ble_eq_true rfl) dX4_takes_27 (fun H locs hP hD hS => ?_)
      have hP : va_P D vwCl (mdW cI cZ h m1 m4 m5 m6 m7 m8 m9 m21 m22 m23 m24 m25 m26 m30 m31 m32 m33 m34 m35 pl nd lk st bo ti te nr ml 0 nl du nO nT wm wb ik kt kl hh pg dl er ra ck fa ft nw tu tc tr tf tt kc kr ke kd kf kg) H := hP
      have hD : va_D A (mdW cI cZ h m1 m4 m5 m6 m7 m8 m9 m21 m22 m23 m24 m25 m26 m30 m31 m32 m33 m34 m35 pl nd lk st bo ti te nr ml 0 nl du nO nT wm wb ik kt kl hh pg dl er ra ck fa ft nw tu tc tr tf tt kc kr ke kd kf kg) := hD
      refine lv_aload_n hx hb dX4_takes_30 rfl (lv_at hl 0 rfl) ?_
      refine va_get (D := D) (ci := 4) (v := .int (iI 0)) (C := RX4) (T := TX4) (N := 39) hx hb hts iX4 hown hK.1 hP 0 rfl rfl 16 (by decide) (hts (.fieldLink RX4 90 "CloseClocksModel" "newNodes" "I") (by decide +kernel)) (fun _ h9 => h9) rfl dX4_takes_31 ?_
      refine kx_if_le (tgt := 41) hx hb (by omega) dX4_takes_34 (by decide) (fun h34 => ?_) (fun h34 => ?_)
      · skip
        refine kx_const (z := 0) hx hb dX4_takes_41 rfl ?_
        exact hret (0, nl, du, nO, nT, nw) 0 H locs _ _ (Or.inr ⟨rfl, by rw [hf0]; omega⟩) (by dsimp only; exact fun qf => ⟨fun q => by omega, fun _ => ⟨by have := hf0.mp qf; first | (rw [hzd, hk0]) | (exfalso; omega), by omega, by omega⟩, fun _ q => by omega, fun _ q => by omega, by rw [a4, show (k + 1 - 1) / 4 = (k - 1) / 4 by omega]⟩) hP hD hS dX4_takes_42
      · skip
        exfalso; omega
    · skip
      refine lv_iload_n hx hb dX4_takes_19 rfl (lv_at hl 1 rfl) ?_
      refine kx_bipush (z := 48) hx hb dX4_takes_20 (by decide) ?_
      refine kx_isub hx hb dX4_takes_22 ?_
      refine lv_goto (tgt := 27) hx hb dX4_takes_23 (by decide) ?_
      refine va_put (D := D) (ci := 4) (v := .int (iI (z - 48))) (ty := .int) (C := RX4) (T := TX4) (N := 39) hx hb hts iX4 tyX4 tyX4_ok nmX4 hown hK.1 hP hD hS 0 rfl rfl 16 (by decide) (hts (.fieldLink RX4 90 "CloseClocksModel" "newNodes" "I") (by decide +kernel)) (fun _ h9 => h9) rfl (by decide +kernel) rfl rfl (Nat.le_of_ble_eq_true rfl) dX4_takes_27 (fun H locs hP hD hS => ?_)
      have hP : va_P D vwCl (mdW cI cZ h m1 m4 m5 m6 m7 m8 m9 m21 m22 m23 m24 m25 m26 m30 m31 m32 m33 m34 m35 pl nd lk st bo ti te nr ml (z - 48) nl du nO nT wm wb ik kt kl hh pg dl er ra ck fa ft nw tu tc tr tf tt kc kr ke kd kf kg) H := hP
      have hD : va_D A (mdW cI cZ h m1 m4 m5 m6 m7 m8 m9 m21 m22 m23 m24 m25 m26 m30 m31 m32 m33 m34 m35 pl nd lk st bo ti te nr ml (z - 48) nl du nO nT wm wb ik kt kl hh pg dl er ra ck fa ft nw tu tc tr tf tt kc kr ke kd kf kg) := hD
      refine lv_aload_n hx hb dX4_takes_30 rfl (lv_at hl 0 rfl) ?_
      refine va_get (D := D) (ci := 4) (v := .int (iI (z - 48))) (C := RX4) (T := TX4) (N := 39) hx hb hts iX4 hown hK.1 hP 0 rfl rfl 16 (by decide) (hts (.fieldLink RX4 90 "CloseClocksModel" "newNodes" "I") (by decide +kernel)) (fun _ h9 => h9) rfl dX4_takes_31 ?_
      refine kx_if_le (tgt := 41) hx hb (by omega) dX4_takes_34 (by decide) (fun h34 => ?_) (fun h34 => ?_)
      · skip
        refine kx_const (z := 0) hx hb dX4_takes_41 rfl ?_
        exact hret ((z - 48), nl, du, nO, nT, nw) 0 H locs _ _ (Or.inr ⟨rfl, by rw [hf0]; omega⟩) (by dsimp only; exact fun qf => ⟨fun q => by omega, fun _ => ⟨by have := hf0.mp qf; first | (rw [hzd, hk0]) | (exfalso; omega), by omega, by omega⟩, fun _ q => by omega, fun _ q => by omega, by rw [a4, show (k + 1 - 1) / 4 = (k - 1) / 4 by omega]⟩) hP hD hS dX4_takes_42
      · skip
        refine kx_const (z := 1) hx hb dX4_takes_37 rfl ?_
        refine lv_goto (tgt := 42) hx hb dX4_takes_38 (by decide) ?_
        exact hret ((z - 48), nl, du, nO, nT, nw) 1 H locs _ _ (Or.inl ⟨rfl, by rw [hf0]; omega⟩) (by dsimp only; exact fun qf => ⟨fun q => by omega, fun _ => ⟨by have := hf0.mp qf; first | (rw [hzd, hk0]) | (exfalso; omega), by omega, by omega⟩, fun _ q => by omega, fun _ q => by omega, by rw [a4, show (k + 1 - 1) / 4 = (k - 1) / 4 by omega]⟩) hP hD hS dX4_takes_42
def rm_X4_goAlong : Room := ({ frames := 3, cells := 0, slots := 0, locals := 65 } : Room)
set_option maxHeartbeats 4000000 in
set_option maxRecDepth 100000 in
theorem c_X4_goAlong (l : Launch) (D : va_G) (cI cZ : ClassId) (h m1 m4 m5 m6 m7 m8 m9 m21 m22 m23 m24 m25 m26 m30 m31 m32 m33 m34 m35 : Nat) (pl nd lk st bo ti te nr ml nn nl du nO nT wm wb ik kt kl : Int) (hh : Int64) (pg dl er ra ck fa ft nw tu tc tr tf tt kc kr ke kd kf kg : Nat → Int)  (hpl : 0 ≤ pl ∧ pl ≤ 61) (hpg : ∀ k : Nat, k < 61 → 0 ≤ pg k ∧ pg k ≤ 126) : kWR l yX4_goAlong wsX4_goAlong rm_X4_goAlong D cI cZ [.ref h] (mdW cI cZ h m1 m4 m5 m6 m7 m8 m9 m21 m22 m23 m24 m25 m26 m30 m31 m32 m33 m34 m35 pl nd lk st bo ti te nr ml nn nl du nO nT wm wb ik kt kl hh pg dl er ra ck fa ft nw tu tc tr tf tt kc kr ke kd kf kg) (fun u : Int × Int × Int × Int × Int × (Nat → Int) => some (.int (iI (fau pg pl.toNat : Int)))) (fun u : Int × Int × Int × Int × Int × (Nat → Int) => AS pg (fau pg pl.toNat) u.1 u.2.1 u.2.2.1 u.2.2.2.1 u.2.2.2.2.1 u.2.2.2.2.2 ∨ fau pg pl.toNat < pl.toNat) (fun u : Int × Int × Int × Int × Int × (Nat → Int) => mdW cI cZ h m1 m4 m5 m6 m7 m8 m9 m21 m22 m23 m24 m25 m26 m30 m31 m32 m33 m34 m35 pl nd lk st bo ti te nr ml u.1 u.2.1 u.2.2.1 u.2.2.2.1 u.2.2.2.2.1 wm wb ik kt kl hh pg dl er ra ck fa ft u.2.2.2.2.2 tu tc tr tf tt kc kr ke kd kf kg) 0 0 := by
  refine kx_WRi (cc := cX4_goAlong) (maxL := 2) (by decide) rfl (Nat.le_of_ble_eq_true rfl) ?_
  intro pr en s mi args below meth co Q A hx hb hml hown hts hK hin hA hP hD hS hret ls hl
  have hown : s.vm.findClass RX4 = some mi.cls := hown
  have iX4 : ∀ w ∈ wsX40, w ∈ wsX4_goAlong := by decide +kernel
  have hl : lv_has ls 2 [(0, .ref h)] := hl
  generalize hH0 : s.heap = H0 at hA hP hS hret ⊢
  obtain ⟨H, hH⟩ : ∃ H : Heap, H = H0 := ⟨_, rfl⟩
  obtain ⟨locs, hlocs⟩ : ∃ locs : List Loc, locs = [] := ⟨_, rfl⟩
  have hS : va_S A H0 H locs := by rw [hH, hlocs]; exact hS
  have hP : va_P D vwCl (mdW cI cZ h m1 m4 m5 m6 m7 m8 m9 m21 m22 m23 m24 m25 m26 m30 m31 m32 m33 m34 m35 pl nd lk st bo ti te nr ml nn nl du nO nT wm wb ik kt kl hh pg dl er ra ck fa ft nw tu tc tr tf tt kc kr ke kd kf kg) H := by rw [hH]; exact hP
  suffices hgo : W pr l en rm_X4_goAlong s mi args below meth co H locs 0 0 Q (F0 mi 0 ls []) by rw [hH, hlocs] at hgo; exact hgo
  clear hH hlocs
  refine lv_aload_n hx hb dX4_goAlong_0 rfl (lv_at hl 0 rfl) ?_
  refine kx_const (z := 0) hx hb dX4_goAlong_1 rfl ?_
  refine va_put (D := D) (ci := 4) (v := .int (iI 0)) (ty := .int) (C := RX4) (T := TX4) (N := 39) hx hb hts iX4 tyX4 tyX4_ok nmX4 hown hK.1 hP hD hS 0 rfl rfl 16 (by decide) (hts (.fieldLink RX4 90 "CloseClocksModel" "newNodes" "I") (by decide +kernel)) (fun _ h9 => h9) rfl (by decide +kernel) rfl rfl (Nat.le_of_ble_eq_true rfl) dX4_goAlong_2 (fun H locs hP hD hS => ?_)
  have hP : va_P D vwCl (mdW cI cZ h m1 m4 m5 m6 m7 m8 m9 m21 m22 m23 m24 m25 m26 m30 m31 m32 m33 m34 m35 pl nd lk st bo ti te nr ml 0 nl du nO nT wm wb ik kt kl hh pg dl er ra ck fa ft nw tu tc tr tf tt kc kr ke kd kf kg) H := hP
  have hD : va_D A (mdW cI cZ h m1 m4 m5 m6 m7 m8 m9 m21 m22 m23 m24 m25 m26 m30 m31 m32 m33 m34 m35 pl nd lk st bo ti te nr ml 0 nl du nO nT wm wb ik kt kl hh pg dl er ra ck fa ft nw tu tc tr tf tt kc kr ke kd kf kg) := hD
  refine lv_aload_n hx hb dX4_goAlong_5 rfl (lv_at hl 0 rfl) ?_
  refine kx_const (z := 0) hx hb dX4_goAlong_6 rfl ?_
  refine va_put (D := D) (ci := 4) (v := .int (iI 0)) (ty := .int) (C := RX4) (T := TX4) (N := 39) hx hb hts iX4 tyX4 tyX4_ok nmX4 hown hK.1 hP hD hS 0 rfl rfl 17 (by decide) (hts (.fieldLink RX4 97 "CloseClocksModel" "newLinks" "I") (by decide +kernel)) (fun _ h9 => h9) rfl (by decide +kernel) rfl rfl (Nat.le_of_ble_eq_true rfl) dX4_goAlong_7 (fun H locs hP hD hS => ?_)
  have hP : va_P D vwCl (mdW cI cZ h m1 m4 m5 m6 m7 m8 m9 m21 m22 m23 m24 m25 m26 m30 m31 m32 m33 m34 m35 pl nd lk st bo ti te nr ml 0 0 du nO nT wm wb ik kt kl hh pg dl er ra ck fa ft nw tu tc tr tf tt kc kr ke kd kf kg) H := hP
  have hD : va_D A (mdW cI cZ h m1 m4 m5 m6 m7 m8 m9 m21 m22 m23 m24 m25 m26 m30 m31 m32 m33 m34 m35 pl nd lk st bo ti te nr ml 0 0 du nO nT wm wb ik kt kl hh pg dl er ra ck fa ft nw tu tc tr tf tt kc kr ke kd kf kg) := hD
  refine lv_aload_n hx hb dX4_goAlong_10 rfl (lv_at hl 0 rfl) ?_
  refine kx_const (z := 0) hx hb dX4_goAlong_11 rfl ?_
  refine va_put (D := D) (ci := 4) (v := .int (iI 0)) (ty := .int) (C := RX4) (T := TX4) (N := 39) hx hb hts iX4 tyX4 tyX4_ok nmX4 hown hK.1 hP hD hS 0 rfl rfl 18 (by decide) (hts (.fieldLink RX4 84 "CloseClocksModel" "due" "I") (by decide +kernel)) (fun _ h9 => h9) rfl (by decide +kernel) rfl rfl (Nat.le_of_ble_eq_true rfl) dX4_goAlong_12 (fun H locs hP hD hS => ?_)
  have hP : va_P D vwCl (mdW cI cZ h m1 m4 m5 m6 m7 m8 m9 m21 m22 m23 m24 m25 m26 m30 m31 m32 m33 m34 m35 pl nd lk st bo ti te nr ml 0 0 0 nO nT wm wb ik kt kl hh pg dl er ra ck fa ft nw tu tc tr tf tt kc kr ke kd kf kg) H := hP
  have hD : va_D A (mdW cI cZ h m1 m4 m5 m6 m7 m8 m9 m21 m22 m23 m24 m25 m26 m30 m31 m32 m33 m34 m35 pl nd lk st bo ti te nr ml 0 0 0 nO nT wm wb ik kt kl hh pg dl er ra ck fa ft nw tu tc tr tf tt kc kr ke kd kf kg) := hD
  refine kx_const (z := 0) hx hb dX4_goAlong_15 rfl ?_
  refine lv_istore_n (lv' := [(1, .int (iI 0)), (0, .ref h)]) hx hb dX4_goAlong_16 rfl hl (by decide) rfl (fun ls hl => ?_)
  have L17 : ∀ (fu : Nat) (j : Nat) (gn : Nat → Int), (j ≤ 36) → (∀ i : Nat, i < j → gn i = (fun _ => -100000001) i) → 36 - j < fu → ∀ (H : Heap) (locs : List Loc), va_P D vwCl (mdW cI cZ h m1 m4 m5 m6 m7 m8 m9 m21 m22 m23 m24 m25 m26 m30 m31 m32 m33 m34 m35 pl nd lk st bo ti te nr ml 0 0 0 nO nT wm wb ik kt kl hh pg dl er ra ck fa ft gn tu tc tr tf tt kc kr ke kd kf kg) H → va_D A (mdW cI cZ h m1 m4 m5 m6 m7 m8 m9 m21 m22 m23 m24 m25 m26 m30 m31 m32 m33 m34 m35 pl nd lk st bo ti te nr ml 0 0 0 nO nT wm wb ik kt kl hh pg dl er ra ck fa ft gn tu tc tr tf tt kc kr ke kd kf kg) → va_S A H0 H locs → ∀ ls : Array Slot, lv_has ls 2 [(0, .ref h), (1, .int (iI (j : Int)))] → W pr l en rm_X4_goAlong s mi args below meth co H locs 0 0 Q (F0 mi 17 ls []) := by
    intro fu
    induction fu with
    | zero =>
      intro j gn hj hgn hfu
      exact absurd hfu (Nat.not_lt_zero _)
    | succ fu ih17 =>
      intro j gn hj hgn hfu H locs hP hD hS ls hl
      refine lv_iload_n hx hb dX4_goAlong_17 rfl (lv_at hl 1 rfl) ?_
      refine kx_bipush (z := 36) hx hb dX4_goAlong_18 (by decide) ?_
      refine kx_icmp_ge (tgt := 37) hx hb (by omega) (by omega) dX4_goAlong_20 (by decide) (fun h20 => ?_) (fun h20 => ?_)
      · skip
        obtain ⟨hP, hD⟩ := kx_arr (g' := (fun _ => -100000001)) hP hD 8 rfl (fun i hi => hgn i (by omega))
        have hP : va_P D vwCl (mdW cI cZ h m1 m4 m5 m6 m7 m8 m9 m21 m22 m23 m24 m25 m26 m30 m31 m32 m33 m34 m35 pl nd lk st bo ti te nr ml 0 0 0 nO nT wm wb ik kt kl hh pg dl er ra ck fa ft (fun _ => -100000001) tu tc tr tf tt kc kr ke kd kf kg) H := hP
        have hD : va_D A (mdW cI cZ h m1 m4 m5 m6 m7 m8 m9 m21 m22 m23 m24 m25 m26 m30 m31 m32 m33 m34 m35 pl nd lk st bo ti te nr ml 0 0 0 nO nT wm wb ik kt kl hh pg dl er ra ck fa ft (fun _ => -100000001) tu tc tr tf tt kc kr ke kd kf kg) := hD
        refine kx_const (z := 0) hx hb dX4_goAlong_37 rfl ?_
        refine lv_istore_n (lv' := [(1, .int (iI 0)), (0, .ref h)]) hx hb dX4_goAlong_38 rfl hl (by decide) rfl (fun ls hl => ?_)
        have L39 : ∀ (fu : Nat) (k : Nat) (n1 : Int) (n2 : Int) (n3 : Int) (n4 : Int) (n5 : Int) (gw : Nat → Int), ((k : Int) ≤ pl) → (AS pg k n1 n2 n3 n4 n5 gw) → (∀ j : Nat, j < k → fit pg j = true) → (xFF (fit pg) (pl.toNat - k) k = fau pg pl.toNat) → pl.toNat - k < fu → ∀ (H : Heap) (locs : List Loc), va_P D vwCl (mdW cI cZ h m1 m4 m5 m6 m7 m8 m9 m21 m22 m23 m24 m25 m26 m30 m31 m32 m33 m34 m35 pl nd lk st bo ti te nr ml n1 n2 n3 n4 n5 wm wb ik kt kl hh pg dl er ra ck fa ft gw tu tc tr tf tt kc kr ke kd kf kg) H → va_D A (mdW cI cZ h m1 m4 m5 m6 m7 m8 m9 m21 m22 m23 m24 m25 m26 m30 m31 m32 m33 m34 m35 pl nd lk st bo ti te nr ml n1 n2 n3 n4 n5 wm wb ik kt kl hh pg dl er ra ck fa ft gw tu tc tr tf tt kc kr ke kd kf kg) → va_S A H0 H locs → ∀ ls : Array Slot, lv_has ls 2 [(0, .ref h), (1, .int (iI (k : Int)))] → W pr l en rm_X4_goAlong s mi args below meth co H locs 0 0 Q (F0 mi 39 ls []) := by
          intro fu
          induction fu with
          | zero =>
            intro k n1 n2 n3 n4 n5 gw hk hAS hfi hff hfu
            exact absurd hfu (Nat.not_lt_zero _)
          | succ fu ih39 =>
            intro k n1 n2 n3 n4 n5 gw hk hAS hfi hff hfu H locs hP hD hS ls hl
            refine lv_iload_n hx hb dX4_goAlong_39 rfl (lv_at hl 1 rfl) ?_
            refine lv_aload_n hx hb dX4_goAlong_40 rfl (lv_at hl 0 rfl) ?_
            refine va_get (D := D) (ci := 4) (v := .int (iI pl)) (C := RX4) (T := TX4) (N := 39) hx hb hts iX4 hown hK.1 hP 0 rfl rfl 0 (by decide) (hts (.fieldLink RX4 80 "CloseClocksModel" "pageLength" "I") (by decide +kernel)) (fun _ h9 => h9) rfl dX4_goAlong_41 ?_
            refine kx_icmp_ge (tgt := 66) hx hb (by omega) (by omega) dX4_goAlong_44 (by decide) (fun h44 => ?_) (fun h44 => ?_)
            · skip
              refine lv_iload_n hx hb dX4_goAlong_66 rfl (lv_at hl 1 rfl) ?_
              refine kx_top (b := (fau pg pl.toNat : Int)) (by rw [← hff]; first | (rw [show pl.toNat - k = 0 by omega]; rfl) | (rw [show pl.toNat - k = (pl.toNat - (k + 1)) + 1 by omega, xFF, if_neg h57])) ?_
              exact hret (n1, n2, n3, n4, n5, gw) H locs _ _ (by first | (left; rw [← hff, show pl.toNat - k = 0 by omega]; exact hAS) | (right; rw [← hff, show pl.toNat - k = (pl.toNat - (k + 1)) + 1 by omega, xFF, if_neg h57]; omega)) hP hD hS dX4_goAlong_67
            · skip
              refine lv_aload_n hx hb dX4_goAlong_47 rfl (lv_at hl 0 rfl) ?_
              refine lv_aload_n hx hb dX4_goAlong_48 rfl (lv_at hl 0 rfl) ?_
              refine va_get (D := D) (ci := 4) (v := .ref m1) (C := RX4) (T := TX4) (N := 39) hx hb hts iX4 hown hK.1 hP 0 rfl rfl 1 (by decide) (hts (.fieldLink RX4 7 "CloseClocksModel" "page" "[I") (by decide +kernel)) (fun _ h9 => h9) rfl dX4_goAlong_49 ?_
              refine lv_iload_n hx hb dX4_goAlong_52 rfl (lv_at hl 1 rfl) ?_
              refine kx_iald (k := k) hx hb hK hP 1 rfl (by omega) (by omega) (by decide) dX4_goAlong_53 ?_
              have rg_1 := hpg k (by omega)
              refine kx_cVW (As := [.int (iI (pg k))]) (rest := []) (wr := []) (q0 := 0) (ci := 4) ⟨hx, hb, hml, hown, hts⟩ (c_X4_takes l D cI cZ h m1 m4 m5 m6 m7 m8 m9 m21 m22 m23 m24 m25 m26 m30 m31 m32 m33 m34 m35 pl nd lk st bo ti te nr ml n1 n2 n3 n4 n5 wm wb ik kt kl hh pg dl er ra ck fa ft gw tu tc tr tf tt kc kr ke kd kf kg (pg k) k (by first | assumption | omega) (by first | assumption | omega) (rfl) (by first | assumption | omega)) (cwV 1 hts gX4_goAlong_X4_takes rfl rfl rfl (by decide +kernel) ⟨Nat.le_of_ble_eq_true rfl, Nat.le_of_ble_eq_true rfl⟩) hK hP hD hS hA [0, 1, 2, 3, 4, 5, 6, 7, 8, 9, 10, 11, 12, 13, 14, 15, 16, 17, 18, 19] [] rfl rfl (by decide) (by decide) (by decide) rfl rfl rfl hl.1 rfl (Nat.le_of_ble_eq_true rfl) dX4_goAlong_54 ⟨Nat.le_of_ble_eq_true rfl, Nat.le_of_ble_eq_true rfl⟩ (fun u H locs hq hP hD hS => ?_)
              obtain ⟨u_2, u_3, u_4, u_5, u_6, u_7⟩ := u
              have hq9 := hq
              try dsimp only at hq9
              have hP : va_P D vwCl (mdW cI cZ h m1 m4 m5 m6 m7 m8 m9 m21 m22 m23 m24 m25 m26 m30 m31 m32 m33 m34 m35 pl nd lk st bo ti te nr ml u_2 u_3 u_4 u_5 u_6 wm wb ik kt kl hh pg dl er ra ck fa ft u_7 tu tc tr tf tt kc kr ke kd kf kg) H := hP.sub [0, 1, 2, 3, 4, 5, 6, 7, 8, 9, 10, 11, 12, 13, 14, 15, 16, 17, 18, 19] rfl
              have hD : va_D A (mdW cI cZ h m1 m4 m5 m6 m7 m8 m9 m21 m22 m23 m24 m25 m26 m30 m31 m32 m33 m34 m35 pl nd lk st bo ti te nr ml u_2 u_3 u_4 u_5 u_6 wm wb ik kt kl hh pg dl er ra ck fa ft u_7 tu tc tr tf tt kc kr ke kd kf kg) := hD.sub [0, 1, 2, 3, 4, 5, 6, 7, 8, 9, 10, 11, 12, 13, 14, 15, 16, 17, 18, 19] (by decide) rfl
              refine W.eq (g2 := F0 mi 57 ls [.int (iI (if (fit pg k = true) then 1 else 0))]) rfl ?_
              refine kx_if_eqB (tgt := 66) hx hb dX4_goAlong_57 (by decide) (fun h57 => ?_) (fun h57 => ?_)
              · skip
                refine lv_iload_n hx hb dX4_goAlong_66 rfl (lv_at hl 1 rfl) ?_
                refine kx_top (b := (fau pg pl.toNat : Int)) (by rw [← hff]; first | (rw [show pl.toNat - k = 0 by omega]; rfl) | (rw [show pl.toNat - k = (pl.toNat - (k + 1)) + 1 by omega, xFF, if_neg h57])) ?_
                exact hret (u_2, u_3, u_4, u_5, u_6, u_7) H locs _ _ (by first | (left; rw [← hff, show pl.toNat - k = 0 by omega]; exact hAS) | (right; rw [← hff, show pl.toNat - k = (pl.toNat - (k + 1)) + 1 by omega, xFF, if_neg h57]; omega)) hP hD hS dX4_goAlong_67
              · skip
                refine kx_iinc (z := ((k + 1 : Nat) : Int)) (lv' := [(1, .int (iI ((k + 1 : Nat) : Int))), (0, .ref h)]) hx hb dX4_goAlong_60 hl (k0 := 1) rfl (by omega) (by decide) rfl (fun ls hl => ?_)
                refine lv_goto (tgt := 39) hx hb dX4_goAlong_63 (by decide) ?_
                exact ih39 (k + 1) u_2 u_3 u_4 u_5 u_6 u_7 (by first | assumption | omega) (hq9 h57) (fun j hj => by by_cases e : j = k; (subst e; exact h57); exact hfi j (by omega)) (by rw [← hff, show pl.toNat - k = (pl.toNat - (k + 1)) + 1 by omega, xFF, if_pos h57]) (by omega) H locs hP hD hS ls (lv_sub hl [1, 0] rfl)
        exact L39 (pl.toNat - 0 + 1) 0 0 0 0 nO nT (fun _ => -100000001) (by first | assumption | omega) (⟨fun _ => ⟨rfl, rfl, rfl⟩, fun q => absurd q (Nat.lt_irrefl 0), fun q => absurd q (Nat.lt_irrefl 0), fun q => absurd q (Nat.lt_irrefl 0), rfl⟩) (fun j hj => absurd hj (Nat.not_lt_zero j)) (rfl) (Nat.lt_succ_self _) H locs hP hD hS ls (lv_sub hl [1, 0] rfl)
      · skip
        refine lv_aload_n hx hb dX4_goAlong_23 rfl (lv_at hl 0 rfl) ?_
        refine va_get (D := D) (ci := 4) (v := .ref m21) (C := RX4) (T := TX4) (N := 39) hx hb hts iX4 hown hK.1 hP 0 rfl rfl 21 (by decide) (hts (.fieldLink RX4 39 "CloseClocksModel" "newDelays" "[I") (by decide +kernel)) (fun _ h9 => h9) rfl dX4_goAlong_24 ?_
        refine lv_iload_n hx hb dX4_goAlong_27 rfl (lv_at hl 1 rfl) ?_
        refine kx_ldc (z := -100000001) hx hb hown (hts (.constant RX4 96 (-100000001)) (by decide +kernel)) dX4_goAlong_28 (by decide) ?_
        refine kx_iast (k := j) (x := (-100000001)) hx hb hK hP hD hS 8 rfl (by omega) (by omega) (by decide) dX4_goAlong_30 (fun H locs hP hD hS => ?_)
        have hP : va_P D vwCl (mdW cI cZ h m1 m4 m5 m6 m7 m8 m9 m21 m22 m23 m24 m25 m26 m30 m31 m32 m33 m34 m35 pl nd lk st bo ti te nr ml 0 0 0 nO nT wm wb ik kt kl hh pg dl er ra ck fa ft (va_up gn j (-100000001)) tu tc tr tf tt kc kr ke kd kf kg) H := hP
        have hD : va_D A (mdW cI cZ h m1 m4 m5 m6 m7 m8 m9 m21 m22 m23 m24 m25 m26 m30 m31 m32 m33 m34 m35 pl nd lk st bo ti te nr ml 0 0 0 nO nT wm wb ik kt kl hh pg dl er ra ck fa ft (va_up gn j (-100000001)) tu tc tr tf tt kc kr ke kd kf kg) := hD
        refine kx_iinc (z := ((j + 1 : Nat) : Int)) (lv' := [(1, .int (iI ((j + 1 : Nat) : Int))), (0, .ref h)]) hx hb dX4_goAlong_31 hl (k0 := 1) rfl (by omega) (by decide) rfl (fun ls hl => ?_)
        refine lv_goto (tgt := 17) hx hb dX4_goAlong_34 (by decide) ?_
        exact ih17 (j + 1) (va_up gn j (-100000001)) (by first | assumption | omega) (up_lt hgn rfl) (by omega) H locs hP hD hS ls (lv_sub hl [1, 0] rfl)
  exact L17 (36 - 0 + 1) 0 nw (by first | assumption | omega) (fun i hi => absurd hi (Nat.not_lt_zero i)) (Nat.lt_succ_self _) H locs hP hD hS ls (lv_sub hl [1, 0] rfl)
def rm_X4_fault : Room := ({ frames := 4, cells := 0, slots := 0, locals := 86 } : Room)
set_option maxHeartbeats 4000000 in
set_option maxRecDepth 100000 in
theorem c_X4_fault (l : Launch) (D : va_G) (cI cZ : ClassId) (h m1 m4 m5 m6 m7 m8 m9 m21 m22 m23 m24 m25 m26 m30 m31 m32 m33 m34 m35 : Nat) (pl nd lk st bo ti te nr ml nn nl du nO nT wm wb ik kt kl : Int) (hh : Int64) (pg dl er ra ck fa ft nw tu tc tr tf tt kc kr ke kd kf kg : Nat → Int)  (hpl : 0 ≤ pl ∧ pl ≤ 61) (hpg : ∀ k : Nat, k < 61 → 0 ≤ pg k ∧ pg k ≤ 126) : kWR l yX4_fault wsX4_fault rm_X4_fault D cI cZ [.ref h] (mdW cI cZ h m1 m4 m5 m6 m7 m8 m9 m21 m22 m23 m24 m25 m26 m30 m31 m32 m33 m34 m35 pl nd lk st bo ti te nr ml nn nl du nO nT wm wb ik kt kl hh pg dl er ra ck fa ft nw tu tc tr tf tt kc kr ke kd kf kg) (fun u : Int × Int × Int × Int × Int × (Nat → Int) => some (.int (iI (fau pg pl.toNat : Int)))) (fun u : Int × Int × Int × Int × Int × (Nat → Int) => True) (fun u : Int × Int × Int × Int × Int × (Nat → Int) => mdW cI cZ h m1 m4 m5 m6 m7 m8 m9 m21 m22 m23 m24 m25 m26 m30 m31 m32 m33 m34 m35 pl nd lk st bo ti te nr ml u.1 u.2.1 u.2.2.1 u.2.2.2.1 u.2.2.2.2.1 wm wb ik kt kl hh pg dl er ra ck fa ft u.2.2.2.2.2 tu tc tr tf tt kc kr ke kd kf kg) 0 0 := by
  refine kx_WRi (cc := cX4_fault) (maxL := 1) (by decide) rfl (Nat.le_of_ble_eq_true rfl) ?_
  intro pr en s mi args below meth co Q A hx hb hml hown hts hK hin hA hP hD hS hret ls hl
  have hown : s.vm.findClass RX4 = some mi.cls := hown
  have hl : lv_has ls 1 [(0, .ref h)] := hl
  generalize hH0 : s.heap = H0 at hA hP hS hret ⊢
  obtain ⟨H, hH⟩ : ∃ H : Heap, H = H0 := ⟨_, rfl⟩
  obtain ⟨locs, hlocs⟩ : ∃ locs : List Loc, locs = [] := ⟨_, rfl⟩
  have hS : va_S A H0 H locs := by rw [hH, hlocs]; exact hS
  have hP : va_P D vwCl (mdW cI cZ h m1 m4 m5 m6 m7 m8 m9 m21 m22 m23 m24 m25 m26 m30 m31 m32 m33 m34 m35 pl nd lk st bo ti te nr ml nn nl du nO nT wm wb ik kt kl hh pg dl er ra ck fa ft nw tu tc tr tf tt kc kr ke kd kf kg) H := by rw [hH]; exact hP
  suffices hgo : W pr l en rm_X4_fault s mi args below meth co H locs 0 0 Q (F0 mi 0 ls []) by rw [hH, hlocs] at hgo; exact hgo
  clear hH hlocs
  refine lv_aload_n hx hb dX4_fault_0 rfl (lv_at hl 0 rfl) ?_
  refine kx_cVW (As := []) (rest := []) (wr := []) (q0 := 0) (ci := 4) ⟨hx, hb, hml, hown, hts⟩ (c_X4_goAlong l D cI cZ h m1 m4 m5 m6 m7 m8 m9 m21 m22 m23 m24 m25 m26 m30 m31 m32 m33 m34 m35 pl nd lk st bo ti te nr ml nn nl du nO nT wm wb ik kt kl hh pg dl er ra ck fa ft nw tu tc tr tf tt kc kr ke kd kf kg (by first | assumption | omega) (by first | assumption | omega)) (cwV 0 hts gX4_fault_X4_goAlong rfl rfl rfl (by decide +kernel) ⟨Nat.le_of_ble_eq_true rfl, Nat.le_of_ble_eq_true rfl⟩) hK hP hD hS hA [0, 1, 2, 3, 4, 5, 6, 7, 8, 9, 10, 11, 12, 13, 14, 15, 16, 17, 18, 19] [] rfl rfl (by decide) (by decide) (by decide) rfl rfl rfl hl.1 rfl (Nat.le_of_ble_eq_true rfl) dX4_fault_1 ⟨Nat.le_of_ble_eq_true rfl, Nat.le_of_ble_eq_true rfl⟩ (fun u H locs hq hP hD hS => ?_)
  obtain ⟨u_1, u_2, u_3, u_4, u_5, u_6⟩ := u
  have hq_7 := hq
  try dsimp only at hq_7
  have hP : va_P D vwCl (mdW cI cZ h m1 m4 m5 m6 m7 m8 m9 m21 m22 m23 m24 m25 m26 m30 m31 m32 m33 m34 m35 pl nd lk st bo ti te nr ml u_1 u_2 u_3 u_4 u_5 wm wb ik kt kl hh pg dl er ra ck fa ft u_6 tu tc tr tf tt kc kr ke kd kf kg) H := hP.sub [0, 1, 2, 3, 4, 5, 6, 7, 8, 9, 10, 11, 12, 13, 14, 15, 16, 17, 18, 19] rfl
  have hD : va_D A (mdW cI cZ h m1 m4 m5 m6 m7 m8 m9 m21 m22 m23 m24 m25 m26 m30 m31 m32 m33 m34 m35 pl nd lk st bo ti te nr ml u_1 u_2 u_3 u_4 u_5 wm wb ik kt kl hh pg dl er ra ck fa ft u_6 tu tc tr tf tt kc kr ke kd kf kg) := hD.sub [0, 1, 2, 3, 4, 5, 6, 7, 8, 9, 10, 11, 12, 13, 14, 15, 16, 17, 18, 19] (by decide) rfl
  refine W.eq (g2 := F0 mi 4 ls [.int (iI (fau pg pl.toNat : Int))]) rfl ?_
  exact hret (u_1, u_2, u_3, u_4, u_5, u_6) H locs _ _ (trivial) hP hD hS dX4_fault_4
