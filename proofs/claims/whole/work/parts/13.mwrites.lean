def rm_X4_letter : Room := ({ frames := 1, cells := 0, slots := 0, locals := 22 } : Room)
set_option maxHeartbeats 4000000 in
set_option maxRecDepth 100000 in
theorem c_X4_letter (l : Launch) (D : va_G) (cI cZ : ClassId) (h m1 m4 m5 m6 m7 m8 m9 m21 m22 m23 m24 m25 m26 m30 m31 m32 m33 m34 m35 : Nat) (pl nd lk st bo ti te nr ml nn nl du nO nT wm wb ik kt kl : Int) (hh : Int64) (pg dl er ra ck fa ft nw tu tc tr tf tt kc kr ke kd kf kg : Nat → Int) (z : Int) (hpl : 0 ≤ pl ∧ pl ≤ 61) (hz : -2147483648 ≤ z ∧ z < 2147483648) : kWR l yX4_letter wsX4_letter rm_X4_letter D cI cZ [.ref h, .int (iI z)] (mdW cI cZ h m1 m4 m5 m6 m7 m8 m9 m21 m22 m23 m24 m25 m26 m30 m31 m32 m33 m34 m35 pl nd lk st bo ti te nr ml nn nl du nO nT wm wb ik kt kl hh pg dl er ra ck fa ft nw tu tc tr tf tt kc kr ke kd kf kg) (fun u : Int × (Nat → Int) => some (.int (iI (if ¬ (32 ≤ z ∧ z ≤ 126) then -100000003 else if pl = 61 then -100000005 else pl + 1)))) (fun u : Int × (Nat → Int) => u.1 = (if ((32 ≤ z ∧ z ≤ 126) ∧ pl ≠ 61) then pl + 1 else pl) ∧ u.2 = (if ((32 ≤ z ∧ z ≤ 126) ∧ pl ≠ 61) then va_up pg pl.toNat z else pg)) (fun u : Int × (Nat → Int) => mdW cI cZ h m1 m4 m5 m6 m7 m8 m9 m21 m22 m23 m24 m25 m26 m30 m31 m32 m33 m34 m35 u.1 nd lk st bo ti te nr ml nn nl du nO nT wm wb ik kt kl hh u.2 dl er ra ck fa ft nw tu tc tr tf tt kc kr ke kd kf kg) 0 0 := by
  refine kx_WRi (cc := cX4_letter) (maxL := 2) (by decide) rfl (Nat.le_of_ble_eq_true rfl) ?_
  intro pr en s mi args below meth co Q A hx hb hml hown hts hK hin hA hP hD hS hret ls hl
  have hown : s.vm.findClass RX4 = some mi.cls := hown
  have iX4 : ∀ w ∈ wsX40, w ∈ wsX4_letter := by decide +kernel
  have hl : lv_has ls 2 [(0, .ref h), (1, .int (iI z))] := hl
  generalize hH0 : s.heap = H0 at hA hP hS hret ⊢
  obtain ⟨H, hH⟩ : ∃ H : Heap, H = H0 := ⟨_, rfl⟩
  obtain ⟨locs, hlocs⟩ : ∃ locs : List Loc, locs = [] := ⟨_, rfl⟩
  have hS : va_S A H0 H locs := by rw [hH, hlocs]; exact hS
  have hP : va_P D vwCl (mdW cI cZ h m1 m4 m5 m6 m7 m8 m9 m21 m22 m23 m24 m25 m26 m30 m31 m32 m33 m34 m35 pl nd lk st bo ti te nr ml nn nl du nO nT wm wb ik kt kl hh pg dl er ra ck fa ft nw tu tc tr tf tt kc kr ke kd kf kg) H := by rw [hH]; exact hP
  suffices hgo : W pr l en rm_X4_letter s mi args below meth co H locs 0 0 Q (F0 mi 0 ls []) by rw [hH, hlocs] at hgo; exact hgo
  clear hH hlocs
  refine lv_iload_n hx hb dX4_letter_0 rfl (lv_at hl 1 rfl) ?_
  refine kx_bipush (z := 32) hx hb dX4_letter_1 (by decide) ?_
  refine kx_bipush (z := 126) hx hb dX4_letter_3 (by decide) ?_
  refine kx_cS (As := [.int (iI z), .int (iI 32), .int (iI 126)]) (rest := []) (st1 := [.int (iI (if (32 ≤ z ∧ z ≤ 126) then 1 else 0))]) ⟨hx, hb, hml, hown, hts⟩ (c_X4_within l D cI cZ z 32 126 (by first | assumption | omega) (by first | assumption | omega) (by first | assumption | omega)) (va_cwS 3 hts gX4_letter_X4_within rfl rfl rfl (by decide +kernel) ⟨Nat.le_of_ble_eq_true rfl, Nat.le_of_ble_eq_true rfl⟩) hK (hP.sub (ws' := []) [] rfl) rfl hl.1 rfl (Nat.le_of_ble_eq_true rfl) dX4_letter_5 ⟨Nat.zero_le _, Nat.zero_le _⟩ rfl ?_
  refine kx_if_neB (tgt := 14) hx hb dX4_letter_8 (by decide) (fun h8 => ?_) (fun h8 => ?_)
  · skip
    refine lv_aload_n hx hb dX4_letter_14 rfl (lv_at hl 0 rfl) ?_
    refine va_get (D := D) (ci := 4) (v := .int (iI pl)) (C := RX4) (T := TX4) (N := 39) hx hb hts iX4 hown hK.1 hP 0 rfl rfl 0 (by decide) (hts (.fieldLink RX4 80 "CloseClocksModel" "pageLength" "I") (by decide +kernel)) (fun _ h9 => h9) rfl dX4_letter_15 ?_
    refine kx_bipush (z := 61) hx hb dX4_letter_18 (by decide) ?_
    refine kx_icmp_ne (tgt := 26) hx hb (by omega) (by omega) dX4_letter_20 (by decide) (fun h20 => ?_) (fun h20 => ?_)
    · skip
      refine lv_aload_n hx hb dX4_letter_26 rfl (lv_at hl 0 rfl) ?_
      refine va_get (D := D) (ci := 4) (v := .ref m1) (C := RX4) (T := TX4) (N := 39) hx hb hts iX4 hown hK.1 hP 0 rfl rfl 1 (by decide) (hts (.fieldLink RX4 7 "CloseClocksModel" "page" "[I") (by decide +kernel)) (fun _ h9 => h9) rfl dX4_letter_27 ?_
      refine lv_aload_n hx hb dX4_letter_30 rfl (lv_at hl 0 rfl) ?_
      refine va_get (D := D) (ci := 4) (v := .int (iI pl)) (C := RX4) (T := TX4) (N := 39) hx hb hts iX4 hown hK.1 hP 0 rfl rfl 0 (by decide) (hts (.fieldLink RX4 80 "CloseClocksModel" "pageLength" "I") (by decide +kernel)) (fun _ h9 => h9) rfl dX4_letter_31 ?_
      refine lv_iload_n hx hb dX4_letter_34 rfl (lv_at hl 1 rfl) ?_
      refine kx_iast (k := pl.toNat) (x := z) hx hb hK hP hD hS 1 rfl (by omega) (by omega) (by decide) dX4_letter_35 (fun H locs hP hD hS => ?_)
      have hP : va_P D vwCl (mdW cI cZ h m1 m4 m5 m6 m7 m8 m9 m21 m22 m23 m24 m25 m26 m30 m31 m32 m33 m34 m35 pl nd lk st bo ti te nr ml nn nl du nO nT wm wb ik kt kl hh (va_up pg pl.toNat z) dl er ra ck fa ft nw tu tc tr tf tt kc kr ke kd kf kg) H := hP
      have hD : va_D A (mdW cI cZ h m1 m4 m5 m6 m7 m8 m9 m21 m22 m23 m24 m25 m26 m30 m31 m32 m33 m34 m35 pl nd lk st bo ti te nr ml nn nl du nO nT wm wb ik kt kl hh (va_up pg pl.toNat z) dl er ra ck fa ft nw tu tc tr tf tt kc kr ke kd kf kg) := hD
      refine lv_aload_n hx hb dX4_letter_36 rfl (lv_at hl 0 rfl) ?_
      refine lv_dup hx hb dX4_letter_37 rfl ?_
      refine va_get (D := D) (ci := 4) (v := .int (iI pl)) (C := RX4) (T := TX4) (N := 39) hx hb hts iX4 hown hK.1 hP 0 rfl rfl 0 (by decide) (hts (.fieldLink RX4 80 "CloseClocksModel" "pageLength" "I") (by decide +kernel)) (fun _ h9 => h9) rfl dX4_letter_38 ?_
      refine kx_const (z := 1) hx hb dX4_letter_41 rfl ?_
      refine kx_iadd hx hb dX4_letter_42 ?_
      refine va_put (D := D) (ci := 4) (v := .int (iI (pl + 1))) (ty := .int) (C := RX4) (T := TX4) (N := 39) hx hb hts iX4 tyX4 tyX4_ok nmX4 hown hK.1 hP hD hS 0 rfl rfl 0 (by decide) (hts (.fieldLink RX4 80 "CloseClocksModel" "pageLength" "I") (by decide +kernel)) (fun _ h9 => h9) rfl (by decide +kernel) rfl rfl (Nat.le_of_ble_eq_true rfl) dX4_letter_43 (fun H locs hP hD hS => ?_)
      have hP : va_P D vwCl (mdW cI cZ h m1 m4 m5 m6 m7 m8 m9 m21 m22 m23 m24 m25 m26 m30 m31 m32 m33 m34 m35 (pl + 1) nd lk st bo ti te nr ml nn nl du nO nT wm wb ik kt kl hh (va_up pg pl.toNat z) dl er ra ck fa ft nw tu tc tr tf tt kc kr ke kd kf kg) H := hP
      have hD : va_D A (mdW cI cZ h m1 m4 m5 m6 m7 m8 m9 m21 m22 m23 m24 m25 m26 m30 m31 m32 m33 m34 m35 (pl + 1) nd lk st bo ti te nr ml nn nl du nO nT wm wb ik kt kl hh (va_up pg pl.toNat z) dl er ra ck fa ft nw tu tc tr tf tt kc kr ke kd kf kg) := hD
      refine lv_aload_n hx hb dX4_letter_46 rfl (lv_at hl 0 rfl) ?_
      refine va_get (D := D) (ci := 4) (v := .int (iI (pl + 1))) (C := RX4) (T := TX4) (N := 39) hx hb hts iX4 hown hK.1 hP 0 rfl rfl 0 (by decide) (hts (.fieldLink RX4 80 "CloseClocksModel" "pageLength" "I") (by decide +kernel)) (fun _ h9 => h9) rfl dX4_letter_47 ?_
      refine kx_top (b := (if ¬ (32 ≤ z ∧ z ≤ 126) then -100000003 else if pl = 61 then -100000005 else pl + 1)) (by (repeat' split) <;> first | rfl | omega | contradiction | (exfalso; simp_all; done) | (exfalso; simp_all; omega)) ?_
      exact hret ((pl + 1), (va_up pg pl.toNat z)) H locs _ _ (⟨(by (repeat' split) <;> first | rfl | omega | contradiction | (exfalso; simp_all; done) | (exfalso; simp_all; omega)), (by (repeat' split) <;> first | rfl | omega | contradiction | (exfalso; simp_all; done) | (exfalso; simp_all; omega))⟩) hP hD hS dX4_letter_50
    · skip
      refine kx_ldc (z := -100000005) hx hb hown (hts (.constant RX4 83 (-100000005)) (by decide +kernel)) dX4_letter_23 (by decide) ?_
      refine kx_top (b := (if ¬ (32 ≤ z ∧ z ≤ 126) then -100000003 else if pl = 61 then -100000005 else pl + 1)) (by (repeat' split) <;> first | rfl | omega | contradiction | (exfalso; simp_all; done) | (exfalso; simp_all; omega)) ?_
      exact hret (pl, pg) H locs _ _ (⟨(by (repeat' split) <;> first | rfl | omega | contradiction | (exfalso; simp_all; done) | (exfalso; simp_all; omega)), (by (repeat' split) <;> first | rfl | omega | contradiction | (exfalso; simp_all; done) | (exfalso; simp_all; omega))⟩) hP hD hS dX4_letter_25
  · skip
    refine kx_ldc (z := -100000003) hx hb hown (hts (.constant RX4 79 (-100000003)) (by decide +kernel)) dX4_letter_11 (by decide) ?_
    refine kx_top (b := (if ¬ (32 ≤ z ∧ z ≤ 126) then -100000003 else if pl = 61 then -100000005 else pl + 1)) (by (repeat' split) <;> first | rfl | omega | contradiction | (exfalso; simp_all; done) | (exfalso; simp_all; omega)) ?_
    exact hret (pl, pg) H locs _ _ (⟨(by (repeat' split) <;> first | rfl | omega | contradiction | (exfalso; simp_all; done) | (exfalso; simp_all; omega)), (by (repeat' split) <;> first | rfl | omega | contradiction | (exfalso; simp_all; done) | (exfalso; simp_all; omega))⟩) hP hD hS dX4_letter_13
def rm_X4_blank : Room := ({ frames := 0, cells := 0, slots := 0, locals := 0 } : Room)
set_option maxHeartbeats 4000000 in
set_option maxRecDepth 100000 in
theorem c_X4_blank (l : Launch) (D : va_G) (cI cZ : ClassId) (h m1 m4 m5 m6 m7 m8 m9 m21 m22 m23 m24 m25 m26 m30 m31 m32 m33 m34 m35 : Nat) (pl nd lk st bo ti te nr ml nn nl du nO nT wm wb ik kt kl : Int) (hh : Int64) (pg dl er ra ck fa ft nw tu tc tr tf tt kc kr ke kd kf kg : Nat → Int)   : kWR l yX4_blank wsX4_blank rm_X4_blank D cI cZ [.ref h] (mdW cI cZ h m1 m4 m5 m6 m7 m8 m9 m21 m22 m23 m24 m25 m26 m30 m31 m32 m33 m34 m35 pl nd lk st bo ti te nr ml nn nl du nO nT wm wb ik kt kl hh pg dl er ra ck fa ft nw tu tc tr tf tt kc kr ke kd kf kg) (fun u : Unit => some (.int (iI pl))) (fun u : Unit => True) (fun u : Unit => mdW cI cZ h m1 m4 m5 m6 m7 m8 m9 m21 m22 m23 m24 m25 m26 m30 m31 m32 m33 m34 m35 0 nd lk st bo ti te nr ml nn nl du nO nT wm wb ik kt kl hh pg dl er ra ck fa ft nw tu tc tr tf tt kc kr ke kd kf kg) 0 0 := by
  refine kx_WRi (cc := cX4_blank) (maxL := 2) (by decide) rfl (Nat.le_of_ble_eq_true rfl) ?_
  intro pr en s mi args below meth co Q A hx hb hml hown hts hK hin hA hP hD hS hret ls hl
  have hown : s.vm.findClass RX4 = some mi.cls := hown
  have iX4 : ∀ w ∈ wsX40, w ∈ wsX4_blank := by decide +kernel
  have hl : lv_has ls 2 [(0, .ref h)] := hl
  generalize hH0 : s.heap = H0 at hA hP hS hret ⊢
  obtain ⟨H, hH⟩ : ∃ H : Heap, H = H0 := ⟨_, rfl⟩
  obtain ⟨locs, hlocs⟩ : ∃ locs : List Loc, locs = [] := ⟨_, rfl⟩
  have hS : va_S A H0 H locs := by rw [hH, hlocs]; exact hS
  have hP : va_P D vwCl (mdW cI cZ h m1 m4 m5 m6 m7 m8 m9 m21 m22 m23 m24 m25 m26 m30 m31 m32 m33 m34 m35 pl nd lk st bo ti te nr ml nn nl du nO nT wm wb ik kt kl hh pg dl er ra ck fa ft nw tu tc tr tf tt kc kr ke kd kf kg) H := by rw [hH]; exact hP
  suffices hgo : W pr l en rm_X4_blank s mi args below meth co H locs 0 0 Q (F0 mi 0 ls []) by rw [hH, hlocs] at hgo; exact hgo
  clear hH hlocs
  refine lv_aload_n hx hb dX4_blank_0 rfl (lv_at hl 0 rfl) ?_
  refine va_get (D := D) (ci := 4) (v := .int (iI pl)) (C := RX4) (T := TX4) (N := 39) hx hb hts iX4 hown hK.1 hP 0 rfl rfl 0 (by decide) (hts (.fieldLink RX4 80 "CloseClocksModel" "pageLength" "I") (by decide +kernel)) (fun _ h9 => h9) rfl dX4_blank_1 ?_
  refine lv_istore_n (lv' := [(1, .int (iI pl)), (0, .ref h)]) hx hb dX4_blank_4 rfl hl (by decide) rfl (fun ls hl => ?_)
  refine lv_aload_n hx hb dX4_blank_5 rfl (lv_at hl 1 rfl) ?_
  refine kx_const (z := 0) hx hb dX4_blank_6 rfl ?_
  refine va_put (D := D) (ci := 4) (v := .int (iI 0)) (ty := .int) (C := RX4) (T := TX4) (N := 39) hx hb hts iX4 tyX4 tyX4_ok nmX4 hown hK.1 hP hD hS 0 rfl rfl 0 (by decide) (hts (.fieldLink RX4 80 "CloseClocksModel" "pageLength" "I") (by decide +kernel)) (fun _ h9 => h9) rfl (by decide +kernel) rfl rfl (Nat.le_of_ble_eq_true rfl) dX4_blank_7 (fun H locs hP hD hS => ?_)
  have hP : va_P D vwCl (mdW cI cZ h m1 m4 m5 m6 m7 m8 m9 m21 m22 m23 m24 m25 m26 m30 m31 m32 m33 m34 m35 0 nd lk st bo ti te nr ml nn nl du nO nT wm wb ik kt kl hh pg dl er ra ck fa ft nw tu tc tr tf tt kc kr ke kd kf kg) H := hP
  have hD : va_D A (mdW cI cZ h m1 m4 m5 m6 m7 m8 m9 m21 m22 m23 m24 m25 m26 m30 m31 m32 m33 m34 m35 0 nd lk st bo ti te nr ml nn nl du nO nT wm wb ik kt kl hh pg dl er ra ck fa ft nw tu tc tr tf tt kc kr ke kd kf kg) := hD
  refine lv_iload_n hx hb dX4_blank_10 rfl (lv_at hl 0 rfl) ?_
  exact hret () H locs _ _ (trivial) hP hD hS dX4_blank_11
def rm_X4_set : Room := ({ frames := 1, cells := 0, slots := 0, locals := 22 } : Room)
set_option maxHeartbeats 4000000 in
set_option maxRecDepth 100000 in
theorem c_X4_set (l : Launch) (D : va_G) (cI cZ : ClassId) (h m1 m4 m5 m6 m7 m8 m9 m21 m22 m23 m24 m25 m26 m30 m31 m32 m33 m34 m35 : Nat) (pl nd lk st bo ti te nr ml nn nl du nO nT wm wb ik kt kl : Int) (hh : Int64) (pg dl er ra ck fa ft nw tu tc tr tf tt kc kr ke kd kf kg : Nat → Int) (q z : Int) (hq : -2147483648 ≤ q ∧ q < 2147483648) (hz : -2147483648 ≤ z ∧ z < 2147483648) : kWR l yX4_set wsX4_set rm_X4_set D cI cZ [.ref h, .int (iI q), .int (iI z)] (mdW cI cZ h m1 m4 m5 m6 m7 m8 m9 m21 m22 m23 m24 m25 m26 m30 m31 m32 m33 m34 m35 pl nd lk st bo ti te nr ml nn nl du nO nT wm wb ik kt kl hh pg dl er ra ck fa ft nw tu tc tr tf tt kc kr ke kd kf kg) (fun u : Int × Int => some (.int (iI (if ¬ ((0 ≤ q ∧ q ≤ 1) ∧ (1 ≤ z ∧ z ≤ (if q = 0 then 500 else 60))) then -100000003 else if q = 0 then st else bo)))) (fun u : Int × Int => u.1 = (if ((0 ≤ q ∧ q ≤ 1) ∧ (1 ≤ z ∧ z ≤ (if q = 0 then 500 else 60))) ∧ q = 0 then z else st) ∧ u.2 = (if ((0 ≤ q ∧ q ≤ 1) ∧ (1 ≤ z ∧ z ≤ (if q = 0 then 500 else 60))) ∧ q ≠ 0 then z else bo)) (fun u : Int × Int => mdW cI cZ h m1 m4 m5 m6 m7 m8 m9 m21 m22 m23 m24 m25 m26 m30 m31 m32 m33 m34 m35 pl nd lk u.1 u.2 ti te nr ml nn nl du nO nT wm wb ik kt kl hh pg dl er ra ck fa ft nw tu tc tr tf tt kc kr ke kd kf kg) 0 0 := by
  refine kx_WRi (cc := cX4_set) (maxL := 4) (by decide) rfl (Nat.le_of_ble_eq_true rfl) ?_
  intro pr en s mi args below meth co Q A hx hb hml hown hts hK hin hA hP hD hS hret ls hl
  have hown : s.vm.findClass RX4 = some mi.cls := hown
  have iX4 : ∀ w ∈ wsX40, w ∈ wsX4_set := by decide +kernel
  have hl : lv_has ls 4 [(0, .ref h), (1, .int (iI q)), (2, .int (iI z))] := hl
  generalize hH0 : s.heap = H0 at hA hP hS hret ⊢
  obtain ⟨H, hH⟩ : ∃ H : Heap, H = H0 := ⟨_, rfl⟩
  obtain ⟨locs, hlocs⟩ : ∃ locs : List Loc, locs = [] := ⟨_, rfl⟩
  have hS : va_S A H0 H locs := by rw [hH, hlocs]; exact hS
  have hP : va_P D vwCl (mdW cI cZ h m1 m4 m5 m6 m7 m8 m9 m21 m22 m23 m24 m25 m26 m30 m31 m32 m33 m34 m35 pl nd lk st bo ti te nr ml nn nl du nO nT wm wb ik kt kl hh pg dl er ra ck fa ft nw tu tc tr tf tt kc kr ke kd kf kg) H := by rw [hH]; exact hP
  suffices hgo : W pr l en rm_X4_set s mi args below meth co H locs 0 0 Q (F0 mi 0 ls []) by rw [hH, hlocs] at hgo; exact hgo
  clear hH hlocs
  refine lv_iload_n hx hb dX4_set_0 rfl (lv_at hl 1 rfl) ?_
  refine kx_const (z := 0) hx hb dX4_set_1 rfl ?_
  refine kx_const (z := 1) hx hb dX4_set_2 rfl ?_
  refine kx_cS (As := [.int (iI q), .int (iI 0), .int (iI 1)]) (rest := []) (st1 := [.int (iI (if (0 ≤ q ∧ q ≤ 1) then 1 else 0))]) ⟨hx, hb, hml, hown, hts⟩ (c_X4_within l D cI cZ q 0 1 (by first | assumption | omega) (by first | assumption | omega) (by first | assumption | omega)) (va_cwS 3 hts gX4_set_X4_within rfl rfl rfl (by decide +kernel) ⟨Nat.le_of_ble_eq_true rfl, Nat.le_of_ble_eq_true rfl⟩) hK (hP.sub (ws' := []) [] rfl) rfl hl.1 rfl (Nat.le_of_ble_eq_true rfl) dX4_set_3 ⟨Nat.zero_le _, Nat.zero_le _⟩ rfl ?_
  refine kx_if_eqB (tgt := 29) hx hb dX4_set_6 (by decide) (fun h6 => ?_) (fun h6 => ?_)
  · skip
    refine kx_ldc (z := -100000003) hx hb hown (hts (.constant RX4 79 (-100000003)) (by decide +kernel)) dX4_set_29 (by decide) ?_
    refine kx_top (b := (if ¬ ((0 ≤ q ∧ q ≤ 1) ∧ (1 ≤ z ∧ z ≤ (if q = 0 then 500 else 60))) then -100000003 else if q = 0 then st else bo)) (by (repeat' split) <;> first | rfl | omega | contradiction | (exfalso; simp_all; done) | (exfalso; simp_all; omega)) ?_
    exact hret (st, bo) H locs _ _ (⟨(by (repeat' split) <;> first | rfl | omega | contradiction | (exfalso; simp_all; done) | (exfalso; simp_all; omega)), (by (repeat' split) <;> first | rfl | omega | contradiction | (exfalso; simp_all; done) | (exfalso; simp_all; omega))⟩) hP hD hS dX4_set_31
  · skip
    refine lv_iload_n hx hb dX4_set_9 rfl (lv_at hl 2 rfl) ?_
    refine kx_const (z := 1) hx hb dX4_set_10 rfl ?_
    refine lv_iload_n hx hb dX4_set_11 rfl (lv_at hl 1 rfl) ?_
    refine kx_if_ne (tgt := 21) hx hb (by omega) dX4_set_12 (by decide) (fun h12 => ?_) (fun h12 => ?_)
    · skip
      refine kx_bipush (z := 60) hx hb dX4_set_21 (by decide) ?_
      refine kx_cS (As := [.int (iI z), .int (iI 1), .int (iI 60)]) (rest := []) (st1 := [.int (iI (if (1 ≤ z ∧ z ≤ 60) then 1 else 0))]) ⟨hx, hb, hml, hown, hts⟩ (c_X4_within l D cI cZ z 1 60 (by first | assumption | omega) (by first | assumption | omega) (by first | assumption | omega)) (va_cwS 3 hts gX4_set_X4_within rfl rfl rfl (by decide +kernel) ⟨Nat.le_of_ble_eq_true rfl, Nat.le_of_ble_eq_true rfl⟩) hK (hP.sub (ws' := []) [] rfl) rfl hl.1 rfl (Nat.le_of_ble_eq_true rfl) dX4_set_23 ⟨Nat.zero_le _, Nat.zero_le _⟩ rfl ?_
      refine kx_if_neB (tgt := 32) hx hb dX4_set_26 (by decide) (fun h26 => ?_) (fun h26 => ?_)
      · skip
        refine lv_iload_n hx hb dX4_set_32 rfl (lv_at hl 1 rfl) ?_
        refine kx_if_ne (tgt := 43) hx hb (by omega) dX4_set_33 (by decide) (fun h33 => ?_) (fun h33 => ?_)
        · skip
          refine lv_aload_n hx hb dX4_set_43 rfl (lv_at hl 0 rfl) ?_
          refine va_get (D := D) (ci := 4) (v := .int (iI bo)) (C := RX4) (T := TX4) (N := 39) hx hb hts iX4 hown hK.1 hP 0 rfl rfl 11 (by decide) (hts (.fieldLink RX4 36 "CloseClocksModel" "boost" "I") (by decide +kernel)) (fun _ h9 => h9) rfl dX4_set_44 ?_
          refine lv_istore_n (lv' := [(3, .int (iI bo)), (0, .ref h), (1, .int (iI q)), (2, .int (iI z))]) hx hb dX4_set_47 rfl hl (by decide) rfl (fun ls hl => ?_)
          refine lv_aload_n hx hb dX4_set_48 rfl (lv_at hl 1 rfl) ?_
          refine lv_iload_n hx hb dX4_set_49 rfl (lv_at hl 2 rfl) ?_
          refine kx_if_ne (tgt := 57) hx hb (by omega) dX4_set_50 (by decide) (fun h50 => ?_) (fun h50 => ?_)
          · skip
            refine lv_aload_n hx hb dX4_set_57 rfl (lv_at hl 1 rfl) ?_
            refine va_get (D := D) (ci := 4) (v := .int (iI st)) (C := RX4) (T := TX4) (N := 39) hx hb hts iX4 hown hK.1 hP 0 rfl rfl 10 (by decide) (hts (.fieldLink RX4 32 "CloseClocksModel" "step" "I") (by decide +kernel)) (fun _ h9 => h9) rfl dX4_set_58 ?_
            refine va_put (D := D) (ci := 4) (v := .int (iI st)) (ty := .int) (C := RX4) (T := TX4) (N := 39) hx hb hts iX4 tyX4 tyX4_ok nmX4 hown hK.1 hP hD hS 0 rfl rfl 10 (by decide) (hts (.fieldLink RX4 32 "CloseClocksModel" "step" "I") (by decide +kernel)) (fun _ h9 => h9) rfl (by decide +kernel) rfl rfl (Nat.le_of_ble_eq_true rfl) dX4_set_61 (fun H locs hP hD hS => ?_)
            have hP : va_P D vwCl (mdW cI cZ h m1 m4 m5 m6 m7 m8 m9 m21 m22 m23 m24 m25 m26 m30 m31 m32 m33 m34 m35 pl nd lk st bo ti te nr ml nn nl du nO nT wm wb ik kt kl hh pg dl er ra ck fa ft nw tu tc tr tf tt kc kr ke kd kf kg) H := hP
            have hD : va_D A (mdW cI cZ h m1 m4 m5 m6 m7 m8 m9 m21 m22 m23 m24 m25 m26 m30 m31 m32 m33 m34 m35 pl nd lk st bo ti te nr ml nn nl du nO nT wm wb ik kt kl hh pg dl er ra ck fa ft nw tu tc tr tf tt kc kr ke kd kf kg) := hD
            refine lv_aload_n hx hb dX4_set_64 rfl (lv_at hl 1 rfl) ?_
            refine lv_iload_n hx hb dX4_set_65 rfl (lv_at hl 2 rfl) ?_
            refine kx_if_ne (tgt := 76) hx hb (by omega) dX4_set_66 (by decide) (fun h66 => ?_) (fun h66 => ?_)
            · skip
              refine lv_iload_n hx hb dX4_set_76 rfl (lv_at hl 3 rfl) ?_
              refine va_put (D := D) (ci := 4) (v := .int (iI z)) (ty := .int) (C := RX4) (T := TX4) (N := 39) hx hb hts iX4 tyX4 tyX4_ok nmX4 hown hK.1 hP hD hS 0 rfl rfl 11 (by decide) (hts (.fieldLink RX4 36 "CloseClocksModel" "boost" "I") (by decide +kernel)) (fun _ h9 => h9) rfl (by decide +kernel) rfl rfl (Nat.le_of_ble_eq_true rfl) dX4_set_77 (fun H locs hP hD hS => ?_)
              have hP : va_P D vwCl (mdW cI cZ h m1 m4 m5 m6 m7 m8 m9 m21 m22 m23 m24 m25 m26 m30 m31 m32 m33 m34 m35 pl nd lk st z ti te nr ml nn nl du nO nT wm wb ik kt kl hh pg dl er ra ck fa ft nw tu tc tr tf tt kc kr ke kd kf kg) H := hP
              have hD : va_D A (mdW cI cZ h m1 m4 m5 m6 m7 m8 m9 m21 m22 m23 m24 m25 m26 m30 m31 m32 m33 m34 m35 pl nd lk st z ti te nr ml nn nl du nO nT wm wb ik kt kl hh pg dl er ra ck fa ft nw tu tc tr tf tt kc kr ke kd kf kg) := hD
              refine lv_iload_n hx hb dX4_set_80 rfl (lv_at hl 0 rfl) ?_
              refine kx_top (b := (if ¬ ((0 ≤ q ∧ q ≤ 1) ∧ (1 ≤ z ∧ z ≤ (if q = 0 then 500 else 60))) then -100000003 else if q = 0 then st else bo)) (by (repeat' split) <;> first | rfl | omega | contradiction | (exfalso; simp_all; done) | (exfalso; simp_all; omega)) ?_
              exact hret (st, z) H locs _ _ (⟨(by (repeat' split) <;> first | rfl | omega | contradiction | (exfalso; simp_all; done) | (exfalso; simp_all; omega)), (by (repeat' split) <;> first | rfl | omega | contradiction | (exfalso; simp_all; done) | (exfalso; simp_all; omega))⟩) hP hD hS dX4_set_81
            · skip
              refine lv_aload_n hx hb dX4_set_69 rfl (lv_at hl 1 rfl) ?_
              refine va_get (D := D) (ci := 4) (v := .int (iI bo)) (C := RX4) (T := TX4) (N := 39) hx hb hts iX4 hown hK.1 hP 0 rfl rfl 11 (by decide) (hts (.fieldLink RX4 36 "CloseClocksModel" "boost" "I") (by decide +kernel)) (fun _ h9 => h9) rfl dX4_set_70 ?_
              refine lv_goto (tgt := 77) hx hb dX4_set_73 (by decide) ?_
              refine va_put (D := D) (ci := 4) (v := .int (iI bo)) (ty := .int) (C := RX4) (T := TX4) (N := 39) hx hb hts iX4 tyX4 tyX4_ok nmX4 hown hK.1 hP hD hS 0 rfl rfl 11 (by decide) (hts (.fieldLink RX4 36 "CloseClocksModel" "boost" "I") (by decide +kernel)) (fun _ h9 => h9) rfl (by decide +kernel) rfl rfl (Nat.le_of_ble_eq_true rfl) dX4_set_77 (fun H locs hP hD hS => ?_)
              have hP : va_P D vwCl (mdW cI cZ h m1 m4 m5 m6 m7 m8 m9 m21 m22 m23 m24 m25 m26 m30 m31 m32 m33 m34 m35 pl nd lk st bo ti te nr ml nn nl du nO nT wm wb ik kt kl hh pg dl er ra ck fa ft nw tu tc tr tf tt kc kr ke kd kf kg) H := hP
              have hD : va_D A (mdW cI cZ h m1 m4 m5 m6 m7 m8 m9 m21 m22 m23 m24 m25 m26 m30 m31 m32 m33 m34 m35 pl nd lk st bo ti te nr ml nn nl du nO nT wm wb ik kt kl hh pg dl er ra ck fa ft nw tu tc tr tf tt kc kr ke kd kf kg) := hD
              refine lv_iload_n hx hb dX4_set_80 rfl (lv_at hl 0 rfl) ?_
              refine kx_top (b := (if ¬ ((0 ≤ q ∧ q ≤ 1) ∧ (1 ≤ z ∧ z ≤ (if q = 0 then 500 else 60))) then -100000003 else if q = 0 then st else bo)) (by (repeat' split) <;> first | rfl | omega | contradiction | (exfalso; simp_all; done) | (exfalso; simp_all; omega)) ?_
              exact hret (st, bo) H locs _ _ (⟨(by (repeat' split) <;> first | rfl | omega | contradiction | (exfalso; simp_all; done) | (exfalso; simp_all; omega)), (by (repeat' split) <;> first | rfl | omega | contradiction | (exfalso; simp_all; done) | (exfalso; simp_all; omega))⟩) hP hD hS dX4_set_81
          · skip
            refine lv_iload_n hx hb dX4_set_53 rfl (lv_at hl 3 rfl) ?_
            refine lv_goto (tgt := 61) hx hb dX4_set_54 (by decide) ?_
            refine va_put (D := D) (ci := 4) (v := .int (iI z)) (ty := .int) (C := RX4) (T := TX4) (N := 39) hx hb hts iX4 tyX4 tyX4_ok nmX4 hown hK.1 hP hD hS 0 rfl rfl 10 (by decide) (hts (.fieldLink RX4 32 "CloseClocksModel" "step" "I") (by decide +kernel)) (fun _ h9 => h9) rfl (by decide +kernel) rfl rfl (Nat.le_of_ble_eq_true rfl) dX4_set_61 (fun H locs hP hD hS => ?_)
            have hP : va_P D vwCl (mdW cI cZ h m1 m4 m5 m6 m7 m8 m9 m21 m22 m23 m24 m25 m26 m30 m31 m32 m33 m34 m35 pl nd lk z bo ti te nr ml nn nl du nO nT wm wb ik kt kl hh pg dl er ra ck fa ft nw tu tc tr tf tt kc kr ke kd kf kg) H := hP
            have hD : va_D A (mdW cI cZ h m1 m4 m5 m6 m7 m8 m9 m21 m22 m23 m24 m25 m26 m30 m31 m32 m33 m34 m35 pl nd lk z bo ti te nr ml nn nl du nO nT wm wb ik kt kl hh pg dl er ra ck fa ft nw tu tc tr tf tt kc kr ke kd kf kg) := hD
            refine lv_aload_n hx hb dX4_set_64 rfl (lv_at hl 1 rfl) ?_
            refine lv_iload_n hx hb dX4_set_65 rfl (lv_at hl 2 rfl) ?_
            refine kx_if_ne (tgt := 76) hx hb (by omega) dX4_set_66 (by decide) (fun h66 => ?_) (fun h66 => ?_)
            · skip
              refine lv_iload_n hx hb dX4_set_76 rfl (lv_at hl 3 rfl) ?_
              refine va_put (D := D) (ci := 4) (v := .int (iI z)) (ty := .int) (C := RX4) (T := TX4) (N := 39) hx hb hts iX4 tyX4 tyX4_ok nmX4 hown hK.1 hP hD hS 0 rfl rfl 11 (by decide) (hts (.fieldLink RX4 36 "CloseClocksModel" "boost" "I") (by decide +kernel)) (fun _ h9 => h9) rfl (by decide +kernel) rfl rfl (Nat.le_of_ble_eq_true rfl) dX4_set_77 (fun H locs hP hD hS => ?_)
              have hP : va_P D vwCl (mdW cI cZ h m1 m4 m5 m6 m7 m8 m9 m21 m22 m23 m24 m25 m26 m30 m31 m32 m33 m34 m35 pl nd lk z z ti te nr ml nn nl du nO nT wm wb ik kt kl hh pg dl er ra ck fa ft nw tu tc tr tf tt kc kr ke kd kf kg) H := hP
              have hD : va_D A (mdW cI cZ h m1 m4 m5 m6 m7 m8 m9 m21 m22 m23 m24 m25 m26 m30 m31 m32 m33 m34 m35 pl nd lk z z ti te nr ml nn nl du nO nT wm wb ik kt kl hh pg dl er ra ck fa ft nw tu tc tr tf tt kc kr ke kd kf kg) := hD
              refine lv_iload_n hx hb dX4_set_80 rfl (lv_at hl 0 rfl) ?_
              refine kx_top (b := (if ¬ ((0 ≤ q ∧ q ≤ 1) ∧ (1 ≤ z ∧ z ≤ (if q = 0 then 500 else 60))) then -100000003 else if q = 0 then st else bo)) (by (repeat' split) <;> first | rfl | omega | contradiction | (exfalso; simp_all; done) | (exfalso; simp_all; omega)) ?_
              exact hret (z, z) H locs _ _ (⟨(by (repeat' split) <;> first | rfl | omega | contradiction | (exfalso; simp_all; done) | (exfalso; simp_all; omega)), (by (repeat' split) <;> first | rfl | omega | contradiction | (exfalso; simp_all; done) | (exfalso; simp_all; omega))⟩) hP hD hS dX4_set_81
            · skip
              refine lv_aload_n hx hb dX4_set_69 rfl (lv_at hl 1 rfl) ?_
              refine va_get (D := D) (ci := 4) (v := .int (iI bo)) (C := RX4) (T := TX4) (N := 39) hx hb hts iX4 hown hK.1 hP 0 rfl rfl 11 (by decide) (hts (.fieldLink RX4 36 "CloseClocksModel" "boost" "I") (by decide +kernel)) (fun _ h9 => h9) rfl dX4_set_70 ?_
              refine lv_goto (tgt := 77) hx hb dX4_set_73 (by decide) ?_
              refine va_put (D := D) (ci := 4) (v := .int (iI bo)) (ty := .int) (C := RX4) (T := TX4) (N := 39) hx hb hts iX4 tyX4 tyX4_ok nmX4 hown hK.1 hP hD hS 0 rfl rfl 11 (by decide) (hts (.fieldLink RX4 36 "CloseClocksModel" "boost" "I") (by decide +kernel)) (fun _ h9 => h9) rfl (by decide +kernel) rfl rfl (Nat.le_of_ble_eq_true rfl) dX4_set_77 (fun H locs hP hD hS => ?_)
              have hP : va_P D vwCl (mdW cI cZ h m1 m4 m5 m6 m7 m8 m9 m21 m22 m23 m24 m25 m26 m30 m31 m32 m33 m34 m35 pl nd lk z bo ti te nr ml nn nl du nO nT wm wb ik kt kl hh pg dl er ra ck fa ft nw tu tc tr tf tt kc kr ke kd kf kg) H := hP
              have hD : va_D A (mdW cI cZ h m1 m4 m5 m6 m7 m8 m9 m21 m22 m23 m24 m25 m26 m30 m31 m32 m33 m34 m35 pl nd lk z bo ti te nr ml nn nl du nO nT wm wb ik kt kl hh pg dl er ra ck fa ft nw tu tc tr tf tt kc kr ke kd kf kg) := hD
              refine lv_iload_n hx hb dX4_set_80 rfl (lv_at hl 0 rfl) ?_
              refine kx_top (b := (if ¬ ((0 ≤ q ∧ q ≤ 1) ∧ (1 ≤ z ∧ z ≤ (if q = 0 then 500 else 60))) then -100000003 else if q = 0 then st else bo)) (by (repeat' split) <;> first | rfl | omega | contradiction | (exfalso; simp_all; done) | (exfalso; simp_all; omega)) ?_
              exact hret (z, bo) H locs _ _ (⟨(by (repeat' split) <;> first | rfl | omega | contradiction | (exfalso; simp_all; done) | (exfalso; simp_all; omega)), (by (repeat' split) <;> first | rfl | omega | contradiction | (exfalso; simp_all; done) | (exfalso; simp_all; omega))⟩) hP hD hS dX4_set_81
        · skip
          refine lv_aload_n hx hb dX4_set_36 rfl (lv_at hl 0 rfl) ?_
          refine va_get (D := D) (ci := 4) (v := .int (iI st)) (C := RX4) (T := TX4) (N := 39) hx hb hts iX4 hown hK.1 hP 0 rfl rfl 10 (by decide) (hts (.fieldLink RX4 32 "CloseClocksModel" "step" "I") (by decide +kernel)) (fun _ h9 => h9) rfl dX4_set_37 ?_
          refine lv_goto (tgt := 47) hx hb dX4_set_40 (by decide) ?_
          refine lv_istore_n (lv' := [(3, .int (iI st)), (0, .ref h), (1, .int (iI q)), (2, .int (iI z))]) hx hb dX4_set_47 rfl hl (by decide) rfl (fun ls hl => ?_)
          refine lv_aload_n hx hb dX4_set_48 rfl (lv_at hl 1 rfl) ?_
          refine lv_iload_n hx hb dX4_set_49 rfl (lv_at hl 2 rfl) ?_
          refine kx_if_ne (tgt := 57) hx hb (by omega) dX4_set_50 (by decide) (fun h50 => ?_) (fun h50 => ?_)
          · skip
            refine lv_aload_n hx hb dX4_set_57 rfl (lv_at hl 1 rfl) ?_
            refine va_get (D := D) (ci := 4) (v := .int (iI st)) (C := RX4) (T := TX4) (N := 39) hx hb hts iX4 hown hK.1 hP 0 rfl rfl 10 (by decide) (hts (.fieldLink RX4 32 "CloseClocksModel" "step" "I") (by decide +kernel)) (fun _ h9 => h9) rfl dX4_set_58 ?_
            refine va_put (D := D) (ci := 4) (v := .int (iI st)) (ty := .int) (C := RX4) (T := TX4) (N := 39) hx hb hts iX4 tyX4 tyX4_ok nmX4 hown hK.1 hP hD hS 0 rfl rfl 10 (by decide) (hts (.fieldLink RX4 32 "CloseClocksModel" "step" "I") (by decide +kernel)) (fun _ h9 => h9) rfl (by decide +kernel) rfl rfl (Nat.le_of_ble_eq_true rfl) dX4_set_61 (fun H locs hP hD hS => ?_)
            have hP : va_P D vwCl (mdW cI cZ h m1 m4 m5 m6 m7 m8 m9 m21 m22 m23 m24 m25 m26 m30 m31 m32 m33 m34 m35 pl nd lk st bo ti te nr ml nn nl du nO nT wm wb ik kt kl hh pg dl er ra ck fa ft nw tu tc tr tf tt kc kr ke kd kf kg) H := hP
            have hD : va_D A (mdW cI cZ h m1 m4 m5 m6 m7 m8 m9 m21 m22 m23 m24 m25 m26 m30 m31 m32 m33 m34 m35 pl nd lk st bo ti te nr ml nn nl du nO nT wm wb ik kt kl hh pg dl er ra ck fa ft nw tu tc tr tf tt kc kr ke kd kf kg) := hD
            refine lv_aload_n hx hb dX4_set_64 rfl (lv_at hl 1 rfl) ?_
            refine lv_iload_n hx hb dX4_set_65 rfl (lv_at hl 2 rfl) ?_
            refine kx_if_ne (tgt := 76) hx hb (by omega) dX4_set_66 (by decide) (fun h66 => ?_) (fun h66 => ?_)
            · skip
              refine lv_iload_n hx hb dX4_set_76 rfl (lv_at hl 3 rfl) ?_
              refine va_put (D := D) (ci := 4) (v := .int (iI z)) (ty := .int) (C := RX4) (T := TX4) (N := 39) hx hb hts iX4 tyX4 tyX4_ok nmX4 hown hK.1 hP hD hS 0 rfl rfl 11 (by decide) (hts (.fieldLink RX4 36 "CloseClocksModel" "boost" "I") (by decide +kernel)) (fun _ h9 => h9) rfl (by decide +kernel) rfl rfl (Nat.le_of_ble_eq_true rfl) dX4_set_77 (fun H locs hP hD hS => ?_)
              have hP : va_P D vwCl (mdW cI cZ h m1 m4 m5 m6 m7 m8 m9 m21 m22 m23 m24 m25 m26 m30 m31 m32 m33 m34 m35 pl nd lk st z ti te nr ml nn nl du nO nT wm wb ik kt kl hh pg dl er ra ck fa ft nw tu tc tr tf tt kc kr ke kd kf kg) H := hP
              have hD : va_D A (mdW cI cZ h m1 m4 m5 m6 m7 m8 m9 m21 m22 m23 m24 m25 m26 m30 m31 m32 m33 m34 m35 pl nd lk st z ti te nr ml nn nl du nO nT wm wb ik kt kl hh pg dl er ra ck fa ft nw tu tc tr tf tt kc kr ke kd kf kg) := hD
              refine lv_iload_n hx hb dX4_set_80 rfl (lv_at hl 0 rfl) ?_
              refine kx_top (b := (if ¬ ((0 ≤ q ∧ q ≤ 1) ∧ (1 ≤ z ∧ z ≤ (if q = 0 then 500 else 60))) then -100000003 else if q = 0 then st else bo)) (by (repeat' split) <;> first | rfl | omega | contradiction | (exfalso; simp_all; done) | (exfalso; simp_all; omega)) ?_
              exact hret (st, z) H locs _ _ (⟨(by (repeat' split) <;> first | rfl | omega | contradiction | (exfalso; simp_all; done) | (exfalso; simp_all; omega)), (by (repeat' split) <;> first | rfl | omega | contradiction | (exfalso; simp_all; done) | (exfalso; simp_all; omega))⟩) hP hD hS dX4_set_81
            · skip
              refine lv_aload_n hx hb dX4_set_69 rfl (lv_at hl 1 rfl) ?_
              refine va_get (D := D) (ci := 4) (v := .int (iI bo)) (C := RX4) (T := TX4) (N := 39) hx hb hts iX4 hown hK.1 hP 0 rfl rfl 11 (by decide) (hts (.fieldLink RX4 36 "CloseClocksModel" "boost" "I") (by decide +kernel)) (fun _ h9 => h9) rfl dX4_set_70 ?_
              refine lv_goto (tgt := 77) hx hb dX4_set_73 (by decide) ?_
              refine va_put (D := D) (ci := 4) (v := .int (iI bo)) (ty := .int) (C := RX4) (T := TX4) (N := 39) hx hb hts iX4 tyX4 tyX4_ok nmX4 hown hK.1 hP hD hS 0 rfl rfl 11 (by decide) (hts (.fieldLink RX4 36 "CloseClocksModel" "boost" "I") (by decide +kernel)) (fun _ h9 => h9) rfl (by decide +kernel) rfl rfl (Nat.le_of_ble_eq_true rfl) dX4_set_77 (fun H locs hP hD hS => ?_)
              have hP : va_P D vwCl (mdW cI cZ h m1 m4 m5 m6 m7 m8 m9 m21 m22 m23 m24 m25 m26 m30 m31 m32 m33 m34 m35 pl nd lk st bo ti te nr ml nn nl du nO nT wm wb ik kt kl hh pg dl er ra ck fa ft nw tu tc tr tf tt kc kr ke kd kf kg) H := hP
              have hD : va_D A (mdW cI cZ h m1 m4 m5 m6 m7 m8 m9 m21 m22 m23 m24 m25 m26 m30 m31 m32 m33 m34 m35 pl nd lk st bo ti te nr ml nn nl du nO nT wm wb ik kt kl hh pg dl er ra ck fa ft nw tu tc tr tf tt kc kr ke kd kf kg) := hD
              refine lv_iload_n hx hb dX4_set_80 rfl (lv_at hl 0 rfl) ?_
              refine kx_top (b := (if ¬ ((0 ≤ q ∧ q ≤ 1) ∧ (1 ≤ z ∧ z ≤ (if q = 0 then 500 else 60))) then -100000003 else if q = 0 then st else bo)) (by (repeat' split) <;> first | rfl | omega | contradiction | (exfalso; simp_all; done) | (exfalso; simp_all; omega)) ?_
              exact hret (st, bo) H locs _ _ (⟨(by (repeat' split) <;> first | rfl | omega | contradiction | (exfalso; simp_all; done) | (exfalso; simp_all; omega)), (by (repeat' split) <;> first | rfl | omega | contradiction | (exfalso; simp_all; done) | (exfalso; simp_all; omega))⟩) hP hD hS dX4_set_81
          · skip
            refine lv_iload_n hx hb dX4_set_53 rfl (lv_at hl 3 rfl) ?_
            refine lv_goto (tgt := 61) hx hb dX4_set_54 (by decide) ?_
            refine va_put (D := D) (ci := 4) (v := .int (iI z)) (ty := .int) (C := RX4) (T := TX4) (N := 39) hx hb hts iX4 tyX4 tyX4_ok nmX4 hown hK.1 hP hD hS 0 rfl rfl 10 (by decide) (hts (.fieldLink RX4 32 "CloseClocksModel" "step" "I") (by decide +kernel)) (fun _ h9 => h9) rfl (by decide +kernel) rfl rfl (Nat.le_of_ble_eq_true rfl) dX4_set_61 (fun H locs hP hD hS => ?_)
            have hP : va_P D vwCl (mdW cI cZ h m1 m4 m5 m6 m7 m8 m9 m21 m22 m23 m24 m25 m26 m30 m31 m32 m33 m34 m35 pl nd lk z bo ti te nr ml nn nl du nO nT wm wb ik kt kl hh pg dl er ra ck fa ft nw tu tc tr tf tt kc kr ke kd kf kg) H := hP
            have hD : va_D A (mdW cI cZ h m1 m4 m5 m6 m7 m8 m9 m21 m22 m23 m24 m25 m26 m30 m31 m32 m33 m34 m35 pl nd lk z bo ti te nr ml nn nl du nO nT wm wb ik kt kl hh pg dl er ra ck fa ft nw tu tc tr tf tt kc kr ke kd kf kg) := hD
            refine lv_aload_n hx hb dX4_set_64 rfl (lv_at hl 1 rfl) ?_
            refine lv_iload_n hx hb dX4_set_65 rfl (lv_at hl 2 rfl) ?_
            refine kx_if_ne (tgt := 76) hx hb (by omega) dX4_set_66 (by decide) (fun h66 => ?_) (fun h66 => ?_)
            · skip
              refine lv_iload_n hx hb dX4_set_76 rfl (lv_at hl 3 rfl) ?_
              refine va_put (D := D) (ci := 4) (v := .int (iI z)) (ty := .int) (C := RX4) (T := TX4) (N := 39) hx hb hts iX4 tyX4 tyX4_ok nmX4 hown hK.1 hP hD hS 0 rfl rfl 11 (by decide) (hts (.fieldLink RX4 36 "CloseClocksModel" "boost" "I") (by decide +kernel)) (fun _ h9 => h9) rfl (by decide +kernel) rfl rfl (Nat.le_of_ble_eq_true rfl) dX4_set_77 (fun H locs hP hD hS => ?_)
              have hP : va_P D vwCl (mdW cI cZ h m1 m4 m5 m6 m7 m8 m9 m21 m22 m23 m24 m25 m26 m30 m31 m32 m33 m34 m35 pl nd lk z z ti te nr ml nn nl du nO nT wm wb ik kt kl hh pg dl er ra ck fa ft nw tu tc tr tf tt kc kr ke kd kf kg) H := hP
              have hD : va_D A (mdW cI cZ h m1 m4 m5 m6 m7 m8 m9 m21 m22 m23 m24 m25 m26 m30 m31 m32 m33 m34 m35 pl nd lk z z ti te nr ml nn nl du nO nT wm wb ik kt kl hh pg dl er ra ck fa ft nw tu tc tr tf tt kc kr ke kd kf kg) := hD
              refine lv_iload_n hx hb dX4_set_80 rfl (lv_at hl 0 rfl) ?_
              refine kx_top (b := (if ¬ ((0 ≤ q ∧ q ≤ 1) ∧ (1 ≤ z ∧ z ≤ (if q = 0 then 500 else 60))) then -100000003 else if q = 0 then st else bo)) (by (repeat' split) <;> first | rfl | omega | contradiction | (exfalso; simp_all; done) | (exfalso; simp_all; omega)) ?_
              exact hret (z, z) H locs _ _ (⟨(by (repeat' split) <;> first | rfl | omega | contradiction | (exfalso; simp_all; done) | (exfalso; simp_all; omega)), (by (repeat' split) <;> first | rfl | omega | contradiction | (exfalso; simp_all; done) | (exfalso; simp_all; omega))⟩) hP hD hS dX4_set_81
            · skip
              refine lv_aload_n hx hb dX4_set_69 rfl (lv_at hl 1 rfl) ?_
              refine va_get (D := D) (ci := 4) (v := .int (iI bo)) (C := RX4) (T := TX4) (N := 39) hx hb hts iX4 hown hK.1 hP 0 rfl rfl 11 (by decide) (hts (.fieldLink RX4 36 "CloseClocksModel" "boost" "I") (by decide +kernel)) (fun _ h9 => h9) rfl dX4_set_70 ?_
              refine lv_goto (tgt := 77) hx hb dX4_set_73 (by decide) ?_
              refine va_put (D := D) (ci := 4) (v := .int (iI bo)) (ty := .int) (C := RX4) (T := TX4) (N := 39) hx hb hts iX4 tyX4 tyX4_ok nmX4 hown hK.1 hP hD hS 0 rfl rfl 11 (by decide) (hts (.fieldLink RX4 36 "CloseClocksModel" "boost" "I") (by decide +kernel)) (fun _ h9 => h9) rfl (by decide +kernel) rfl rfl (Nat.le_of_ble_eq_true rfl) dX4_set_77 (fun H locs hP hD hS => ?_)
              have hP : va_P D vwCl (mdW cI cZ h m1 m4 m5 m6 m7 m8 m9 m21 m22 m23 m24 m25 m26 m30 m31 m32 m33 m34 m35 pl nd lk z bo ti te nr ml nn nl du nO nT wm wb ik kt kl hh pg dl er ra ck fa ft nw tu tc tr tf tt kc kr ke kd kf kg) H := hP
              have hD : va_D A (mdW cI cZ h m1 m4 m5 m6 m7 m8 m9 m21 m22 m23 m24 m25 m26 m30 m31 m32 m33 m34 m35 pl nd lk z bo ti te nr ml nn nl du nO nT wm wb ik kt kl hh pg dl er ra ck fa ft nw tu tc tr tf tt kc kr ke kd kf kg) := hD
              refine lv_iload_n hx hb dX4_set_80 rfl (lv_at hl 0 rfl) ?_
              refine kx_top (b := (if ¬ ((0 ≤ q ∧ q ≤ 1) ∧ (1 ≤ z ∧ z ≤ (if q = 0 then 500 else 60))) then -100000003 else if q = 0 then st else bo)) (by (repeat' split) <;> first | rfl | omega | contradiction | (exfalso; simp_all; done) | (exfalso; simp_all; omega)) ?_
              exact hret (z, bo) H locs _ _ (⟨(by (repeat' split) <;> first | rfl | omega | contradiction | (exfalso; simp_all; done) | (exfalso; simp_all; omega)), (by (repeat' split) <;> first | rfl | omega | contradiction | (exfalso; simp_all; done) | (exfalso; simp_all; omega))⟩) hP hD hS dX4_set_81
      · skip
        refine kx_ldc (z := -100000003) hx hb hown (hts (.constant RX4 79 (-100000003)) (by decide +kernel)) dX4_set_29 (by decide) ?_
        refine kx_top (b := (if ¬ ((0 ≤ q ∧ q ≤ 1) ∧ (1 ≤ z ∧ z ≤ (if q = 0 then 500 else 60))) then -100000003 else if q = 0 then st else bo)) (by (repeat' split) <;> first | rfl | omega | contradiction | (exfalso; simp_all; done) | (exfalso; simp_all; omega)) ?_
        exact hret (st, bo) H locs _ _ (⟨(by (repeat' split) <;> first | rfl | omega | contradiction | (exfalso; simp_all; done) | (exfalso; simp_all; omega)), (by (repeat' split) <;> first | rfl | omega | contradiction | (exfalso; simp_all; done) | (exfalso; simp_all; omega))⟩) hP hD hS dX4_set_31
    · skip
      refine kx_sipush (z := 500) hx hb dX4_set_15 (by decide) ?_
      refine lv_goto (tgt := 23) hx hb dX4_set_18 (by decide) ?_
      refine kx_cS (As := [.int (iI z), .int (iI 1), .int (iI 500)]) (rest := []) (st1 := [.int (iI (if (1 ≤ z ∧ z ≤ 500) then 1 else 0))]) ⟨hx, hb, hml, hown, hts⟩ (c_X4_within l D cI cZ z 1 500 (by first | assumption | omega) (by first | assumption | omega) (by first | assumption | omega)) (va_cwS 3 hts gX4_set_X4_within rfl rfl rfl (by decide +kernel) ⟨Nat.le_of_ble_eq_true rfl, Nat.le_of_ble_eq_true rfl⟩) hK (hP.sub (ws' := []) [] rfl) rfl hl.1 rfl (Nat.le_of_ble_eq_true rfl) dX4_set_23 ⟨Nat.zero_le _, Nat.zero_le _⟩ rfl ?_
      refine kx_if_neB (tgt := 32) hx hb dX4_set_26 (by decide) (fun h26 => ?_) (fun h26 => ?_)
      · skip
        refine lv_iload_n hx hb dX4_set_32 rfl (lv_at hl 1 rfl) ?_
        refine kx_if_ne (tgt := 43) hx hb (by omega) dX4_set_33 (by decide) (fun h33 => ?_) (fun h33 => ?_)
        · skip
          refine lv_aload_n hx hb dX4_set_43 rfl (lv_at hl 0 rfl) ?_
          refine va_get (D := D) (ci := 4) (v := .int (iI bo)) (C := RX4) (T := TX4) (N := 39) hx hb hts iX4 hown hK.1 hP 0 rfl rfl 11 (by decide) (hts (.fieldLink RX4 36 "CloseClocksModel" "boost" "I") (by decide +kernel)) (fun _ h9 => h9) rfl dX4_set_44 ?_
          refine lv_istore_n (lv' := [(3, .int (iI bo)), (0, .ref h), (1, .int (iI q)), (2, .int (iI z))]) hx hb dX4_set_47 rfl hl (by decide) rfl (fun ls hl => ?_)
          refine lv_aload_n hx hb dX4_set_48 rfl (lv_at hl 1 rfl) ?_
          refine lv_iload_n hx hb dX4_set_49 rfl (lv_at hl 2 rfl) ?_
          refine kx_if_ne (tgt := 57) hx hb (by omega) dX4_set_50 (by decide) (fun h50 => ?_) (fun h50 => ?_)
          · skip
            refine lv_aload_n hx hb dX4_set_57 rfl (lv_at hl 1 rfl) ?_
            refine va_get (D := D) (ci := 4) (v := .int (iI st)) (C := RX4) (T := TX4) (N := 39) hx hb hts iX4 hown hK.1 hP 0 rfl rfl 10 (by decide) (hts (.fieldLink RX4 32 "CloseClocksModel" "step" "I") (by decide +kernel)) (fun _ h9 => h9) rfl dX4_set_58 ?_
            refine va_put (D := D) (ci := 4) (v := .int (iI st)) (ty := .int) (C := RX4) (T := TX4) (N := 39) hx hb hts iX4 tyX4 tyX4_ok nmX4 hown hK.1 hP hD hS 0 rfl rfl 10 (by decide) (hts (.fieldLink RX4 32 "CloseClocksModel" "step" "I") (by decide +kernel)) (fun _ h9 => h9) rfl (by decide +kernel) rfl rfl (Nat.le_of_ble_eq_true rfl) dX4_set_61 (fun H locs hP hD hS => ?_)
            have hP : va_P D vwCl (mdW cI cZ h m1 m4 m5 m6 m7 m8 m9 m21 m22 m23 m24 m25 m26 m30 m31 m32 m33 m34 m35 pl nd lk st bo ti te nr ml nn nl du nO nT wm wb ik kt kl hh pg dl er ra ck fa ft nw tu tc tr tf tt kc kr ke kd kf kg) H := hP
            have hD : va_D A (mdW cI cZ h m1 m4 m5 m6 m7 m8 m9 m21 m22 m23 m24 m25 m26 m30 m31 m32 m33 m34 m35 pl nd lk st bo ti te nr ml nn nl du nO nT wm wb ik kt kl hh pg dl er ra ck fa ft nw tu tc tr tf tt kc kr ke kd kf kg) := hD
            refine lv_aload_n hx hb dX4_set_64 rfl (lv_at hl 1 rfl) ?_
            refine lv_iload_n hx hb dX4_set_65 rfl (lv_at hl 2 rfl) ?_
            refine kx_if_ne (tgt := 76) hx hb (by omega) dX4_set_66 (by decide) (fun h66 => ?_) (fun h66 => ?_)
            · skip
              refine lv_iload_n hx hb dX4_set_76 rfl (lv_at hl 3 rfl) ?_
              refine va_put (D := D) (ci := 4) (v := .int (iI z)) (ty := .int) (C := RX4) (T := TX4) (N := 39) hx hb hts iX4 tyX4 tyX4_ok nmX4 hown hK.1 hP hD hS 0 rfl rfl 11 (by decide) (hts (.fieldLink RX4 36 "CloseClocksModel" "boost" "I") (by decide +kernel)) (fun _ h9 => h9) rfl (by decide +kernel) rfl rfl (Nat.le_of_ble_eq_true rfl) dX4_set_77 (fun H locs hP hD hS => ?_)
              have hP : va_P D vwCl (mdW cI cZ h m1 m4 m5 m6 m7 m8 m9 m21 m22 m23 m24 m25 m26 m30 m31 m32 m33 m34 m35 pl nd lk st z ti te nr ml nn nl du nO nT wm wb ik kt kl hh pg dl er ra ck fa ft nw tu tc tr tf tt kc kr ke kd kf kg) H := hP
              have hD : va_D A (mdW cI cZ h m1 m4 m5 m6 m7 m8 m9 m21 m22 m23 m24 m25 m26 m30 m31 m32 m33 m34 m35 pl nd lk st z ti te nr ml nn nl du nO nT wm wb ik kt kl hh pg dl er ra ck fa ft nw tu tc tr tf tt kc kr ke kd kf kg) := hD
              refine lv_iload_n hx hb dX4_set_80 rfl (lv_at hl 0 rfl) ?_
              refine kx_top (b := (if ¬ ((0 ≤ q ∧ q ≤ 1) ∧ (1 ≤ z ∧ z ≤ (if q = 0 then 500 else 60))) then -100000003 else if q = 0 then st else bo)) (by (repeat' split) <;> first | rfl | omega | contradiction | (exfalso; simp_all; done) | (exfalso; simp_all; omega)) ?_
              exact hret (st, z) H locs _ _ (⟨(by (repeat' split) <;> first | rfl | omega | contradiction | (exfalso; simp_all; done) | (exfalso; simp_all; omega)), (by (repeat' split) <;> first | rfl | omega | contradiction | (exfalso; simp_all; done) | (exfalso; simp_all; omega))⟩) hP hD hS dX4_set_81
            · skip
              refine lv_aload_n hx hb dX4_set_69 rfl (lv_at hl 1 rfl) ?_
              refine va_get (D := D) (ci := 4) (v := .int (iI bo)) (C := RX4) (T := TX4) (N := 39) hx hb hts iX4 hown hK.1 hP 0 rfl rfl 11 (by decide) (hts (.fieldLink RX4 36 "CloseClocksModel" "boost" "I") (by decide +kernel)) (fun _ h9 => h9) rfl dX4_set_70 ?_
              refine lv_goto (tgt := 77) hx hb dX4_set_73 (by decide) ?_
              refine va_put (D := D) (ci := 4) (v := .int (iI bo)) (ty := .int) (C := RX4) (T := TX4) (N := 39) hx hb hts iX4 tyX4 tyX4_ok nmX4 hown hK.1 hP hD hS 0 rfl rfl 11 (by decide) (hts (.fieldLink RX4 36 "CloseClocksModel" "boost" "I") (by decide +kernel)) (fun _ h9 => h9) rfl (by decide +kernel) rfl rfl (Nat.le_of_ble_eq_true rfl) dX4_set_77 (fun H locs hP hD hS => ?_)
              have hP : va_P D vwCl (mdW cI cZ h m1 m4 m5 m6 m7 m8 m9 m21 m22 m23 m24 m25 m26 m30 m31 m32 m33 m34 m35 pl nd lk st bo ti te nr ml nn nl du nO nT wm wb ik kt kl hh pg dl er ra ck fa ft nw tu tc tr tf tt kc kr ke kd kf kg) H := hP
              have hD : va_D A (mdW cI cZ h m1 m4 m5 m6 m7 m8 m9 m21 m22 m23 m24 m25 m26 m30 m31 m32 m33 m34 m35 pl nd lk st bo ti te nr ml nn nl du nO nT wm wb ik kt kl hh pg dl er ra ck fa ft nw tu tc tr tf tt kc kr ke kd kf kg) := hD
              refine lv_iload_n hx hb dX4_set_80 rfl (lv_at hl 0 rfl) ?_
              refine kx_top (b := (if ¬ ((0 ≤ q ∧ q ≤ 1) ∧ (1 ≤ z ∧ z ≤ (if q = 0 then 500 else 60))) then -100000003 else if q = 0 then st else bo)) (by (repeat' split) <;> first | rfl | omega | contradiction | (exfalso; simp_all; done) | (exfalso; simp_all; omega)) ?_
              exact hret (st, bo) H locs _ _ (⟨(by (repeat' split) <;> first | rfl | omega | contradiction | (exfalso; simp_all; done) | (exfalso; simp_all; omega)), (by (repeat' split) <;> first | rfl | omega | contradiction | (exfalso; simp_all; done) | (exfalso; simp_all; omega))⟩) hP hD hS dX4_set_81
          · skip
            refine lv_iload_n hx hb dX4_set_53 rfl (lv_at hl 3 rfl) ?_
            refine lv_goto (tgt := 61) hx hb dX4_set_54 (by decide) ?_
            refine va_put (D := D) (ci := 4) (v := .int (iI z)) (ty := .int) (C := RX4) (T := TX4) (N := 39) hx hb hts iX4 tyX4 tyX4_ok nmX4 hown hK.1 hP hD hS 0 rfl rfl 10 (by decide) (hts (.fieldLink RX4 32 "CloseClocksModel" "step" "I") (by decide +kernel)) (fun _ h9 => h9) rfl (by decide +kernel) rfl rfl (Nat.le_of_ble_eq_true rfl) dX4_set_61 (fun H locs hP hD hS => ?_)
            have hP : va_P D vwCl (mdW cI cZ h m1 m4 m5 m6 m7 m8 m9 m21 m22 m23 m24 m25 m26 m30 m31 m32 m33 m34 m35 pl nd lk z bo ti te nr ml nn nl du nO nT wm wb ik kt kl hh pg dl er ra ck fa ft nw tu tc tr tf tt kc kr ke kd kf kg) H := hP
            have hD : va_D A (mdW cI cZ h m1 m4 m5 m6 m7 m8 m9 m21 m22 m23 m24 m25 m26 m30 m31 m32 m33 m34 m35 pl nd lk z bo ti te nr ml nn nl du nO nT wm wb ik kt kl hh pg dl er ra ck fa ft nw tu tc tr tf tt kc kr ke kd kf kg) := hD
            refine lv_aload_n hx hb dX4_set_64 rfl (lv_at hl 1 rfl) ?_
            refine lv_iload_n hx hb dX4_set_65 rfl (lv_at hl 2 rfl) ?_
            refine kx_if_ne (tgt := 76) hx hb (by omega) dX4_set_66 (by decide) (fun h66 => ?_) (fun h66 => ?_)
            · skip
              refine lv_iload_n hx hb dX4_set_76 rfl (lv_at hl 3 rfl) ?_
              refine va_put (D := D) (ci := 4) (v := .int (iI z)) (ty := .int) (C := RX4) (T := TX4) (N := 39) hx hb hts iX4 tyX4 tyX4_ok nmX4 hown hK.1 hP hD hS 0 rfl rfl 11 (by decide) (hts (.fieldLink RX4 36 "CloseClocksModel" "boost" "I") (by decide +kernel)) (fun _ h9 => h9) rfl (by decide +kernel) rfl rfl (Nat.le_of_ble_eq_true rfl) dX4_set_77 (fun H locs hP hD hS => ?_)
              have hP : va_P D vwCl (mdW cI cZ h m1 m4 m5 m6 m7 m8 m9 m21 m22 m23 m24 m25 m26 m30 m31 m32 m33 m34 m35 pl nd lk z z ti te nr ml nn nl du nO nT wm wb ik kt kl hh pg dl er ra ck fa ft nw tu tc tr tf tt kc kr ke kd kf kg) H := hP
              have hD : va_D A (mdW cI cZ h m1 m4 m5 m6 m7 m8 m9 m21 m22 m23 m24 m25 m26 m30 m31 m32 m33 m34 m35 pl nd lk z z ti te nr ml nn nl du nO nT wm wb ik kt kl hh pg dl er ra ck fa ft nw tu tc tr tf tt kc kr ke kd kf kg) := hD
              refine lv_iload_n hx hb dX4_set_80 rfl (lv_at hl 0 rfl) ?_
              refine kx_top (b := (if ¬ ((0 ≤ q ∧ q ≤ 1) ∧ (1 ≤ z ∧ z ≤ (if q = 0 then 500 else 60))) then -100000003 else if q = 0 then st else bo)) (by (repeat' split) <;> first | rfl | omega | contradiction | (exfalso; simp_all; done) | (exfalso; simp_all; omega)) ?_
              exact hret (z, z) H locs _ _ (⟨(by (repeat' split) <;> first | rfl | omega | contradiction | (exfalso; simp_all; done) | (exfalso; simp_all; omega)), (by (repeat' split) <;> first | rfl | omega | contradiction | (exfalso; simp_all; done) | (exfalso; simp_all; omega))⟩) hP hD hS dX4_set_81
            · skip
              refine lv_aload_n hx hb dX4_set_69 rfl (lv_at hl 1 rfl) ?_
              refine va_get (D := D) (ci := 4) (v := .int (iI bo)) (C := RX4) (T := TX4) (N := 39) hx hb hts iX4 hown hK.1 hP 0 rfl rfl 11 (by decide) (hts (.fieldLink RX4 36 "CloseClocksModel" "boost" "I") (by decide +kernel)) (fun _ h9 => h9) rfl dX4_set_70 ?_
              refine lv_goto (tgt := 77) hx hb dX4_set_73 (by decide) ?_
              refine va_put (D := D) (ci := 4) (v := .int (iI bo)) (ty := .int) (C := RX4) (T := TX4) (N := 39) hx hb hts iX4 tyX4 tyX4_ok nmX4 hown hK.1 hP hD hS 0 rfl rfl 11 (by decide) (hts (.fieldLink RX4 36 "CloseClocksModel" "boost" "I") (by decide +kernel)) (fun _ h9 => h9) rfl (by decide +kernel) rfl rfl (Nat.le_of_ble_eq_true rfl) dX4_set_77 (fun H locs hP hD hS => ?_)
              have hP : va_P D vwCl (mdW cI cZ h m1 m4 m5 m6 m7 m8 m9 m21 m22 m23 m24 m25 m26 m30 m31 m32 m33 m34 m35 pl nd lk z bo ti te nr ml nn nl du nO nT wm wb ik kt kl hh pg dl er ra ck fa ft nw tu tc tr tf tt kc kr ke kd kf kg) H := hP
              have hD : va_D A (mdW cI cZ h m1 m4 m5 m6 m7 m8 m9 m21 m22 m23 m24 m25 m26 m30 m31 m32 m33 m34 m35 pl nd lk z bo ti te nr ml nn nl du nO nT wm wb ik kt kl hh pg dl er ra ck fa ft nw tu tc tr tf tt kc kr ke kd kf kg) := hD
              refine lv_iload_n hx hb dX4_set_80 rfl (lv_at hl 0 rfl) ?_
              refine kx_top (b := (if ¬ ((0 ≤ q ∧ q ≤ 1) ∧ (1 ≤ z ∧ z ≤ (if q = 0 then 500 else 60))) then -100000003 else if q = 0 then st else bo)) (by (repeat' split) <;> first | rfl | omega | contradiction | (exfalso; simp_all; done) | (exfalso; simp_all; omega)) ?_
              exact hret (z, bo) H locs _ _ (⟨(by (repeat' split) <;> first | rfl | omega | contradiction | (exfalso; simp_all; done) | (exfalso; simp_all; omega)), (by (repeat' split) <;> first | rfl | omega | contradiction | (exfalso; simp_all; done) | (exfalso; simp_all; omega))⟩) hP hD hS dX4_set_81
        · skip
          refine lv_aload_n hx hb dX4_set_36 rfl (lv_at hl 0 rfl) ?_
          refine va_get (D := D) (ci := 4) (v := .int (iI st)) (C := RX4) (T := TX4) (N := 39) hx hb hts iX4 hown hK.1 hP 0 rfl rfl 10 (by decide) (hts (.fieldLink RX4 32 "CloseClocksModel" "step" "I") (by decide +kernel)) (fun _ h9 => h9) rfl dX4_set_37 ?_
          refine lv_goto (tgt := 47) hx hb dX4_set_40 (by decide) ?_
          refine lv_istore_n (lv' := [(3, .int (iI st)), (0, .ref h), (1, .int (iI q)), (2, .int (iI z))]) hx hb dX4_set_47 rfl hl (by decide) rfl (fun ls hl => ?_)
          refine lv_aload_n hx hb dX4_set_48 rfl (lv_at hl 1 rfl) ?_
          refine lv_iload_n hx hb dX4_set_49 rfl (lv_at hl 2 rfl) ?_
          refine kx_if_ne (tgt := 57) hx hb (by omega) dX4_set_50 (by decide) (fun h50 => ?_) (fun h50 => ?_)
          · skip
            refine lv_aload_n hx hb dX4_set_57 rfl (lv_at hl 1 rfl) ?_
            refine va_get (D := D) (ci := 4) (v := .int (iI st)) (C := RX4) (T := TX4) (N := 39) hx hb hts iX4 hown hK.1 hP 0 rfl rfl 10 (by decide) (hts (.fieldLink RX4 32 "CloseClocksModel" "step" "I") (by decide +kernel)) (fun _ h9 => h9) rfl dX4_set_58 ?_
            refine va_put (D := D) (ci := 4) (v := .int (iI st)) (ty := .int) (C := RX4) (T := TX4) (N := 39) hx hb hts iX4 tyX4 tyX4_ok nmX4 hown hK.1 hP hD hS 0 rfl rfl 10 (by decide) (hts (.fieldLink RX4 32 "CloseClocksModel" "step" "I") (by decide +kernel)) (fun _ h9 => h9) rfl (by decide +kernel) rfl rfl (Nat.le_of_ble_eq_true rfl) dX4_set_61 (fun H locs hP hD hS => ?_)
            have hP : va_P D vwCl (mdW cI cZ h m1 m4 m5 m6 m7 m8 m9 m21 m22 m23 m24 m25 m26 m30 m31 m32 m33 m34 m35 pl nd lk st bo ti te nr ml nn nl du nO nT wm wb ik kt kl hh pg dl er ra ck fa ft nw tu tc tr tf tt kc kr ke kd kf kg) H := hP
            have hD : va_D A (mdW cI cZ h m1 m4 m5 m6 m7 m8 m9 m21 m22 m23 m24 m25 m26 m30 m31 m32 m33 m34 m35 pl nd lk st bo ti te nr ml nn nl du nO nT wm wb ik kt kl hh pg dl er ra ck fa ft nw tu tc tr tf tt kc kr ke kd kf kg) := hD
            refine lv_aload_n hx hb dX4_set_64 rfl (lv_at hl 1 rfl) ?_
            refine lv_iload_n hx hb dX4_set_65 rfl (lv_at hl 2 rfl) ?_
            refine kx_if_ne (tgt := 76) hx hb (by omega) dX4_set_66 (by decide) (fun h66 => ?_) (fun h66 => ?_)
            · skip
              refine lv_iload_n hx hb dX4_set_76 rfl (lv_at hl 3 rfl) ?_
              refine va_put (D := D) (ci := 4) (v := .int (iI z)) (ty := .int) (C := RX4) (T := TX4) (N := 39) hx hb hts iX4 tyX4 tyX4_ok nmX4 hown hK.1 hP hD hS 0 rfl rfl 11 (by decide) (hts (.fieldLink RX4 36 "CloseClocksModel" "boost" "I") (by decide +kernel)) (fun _ h9 => h9) rfl (by decide +kernel) rfl rfl (Nat.le_of_ble_eq_true rfl) dX4_set_77 (fun H locs hP hD hS => ?_)
              have hP : va_P D vwCl (mdW cI cZ h m1 m4 m5 m6 m7 m8 m9 m21 m22 m23 m24 m25 m26 m30 m31 m32 m33 m34 m35 pl nd lk st z ti te nr ml nn nl du nO nT wm wb ik kt kl hh pg dl er ra ck fa ft nw tu tc tr tf tt kc kr ke kd kf kg) H := hP
              have hD : va_D A (mdW cI cZ h m1 m4 m5 m6 m7 m8 m9 m21 m22 m23 m24 m25 m26 m30 m31 m32 m33 m34 m35 pl nd lk st z ti te nr ml nn nl du nO nT wm wb ik kt kl hh pg dl er ra ck fa ft nw tu tc tr tf tt kc kr ke kd kf kg) := hD
              refine lv_iload_n hx hb dX4_set_80 rfl (lv_at hl 0 rfl) ?_
              refine kx_top (b := (if ¬ ((0 ≤ q ∧ q ≤ 1) ∧ (1 ≤ z ∧ z ≤ (if q = 0 then 500 else 60))) then -100000003 else if q = 0 then st else bo)) (by (repeat' split) <;> first | rfl | omega | contradiction | (exfalso; simp_all; done) | (exfalso; simp_all; omega)) ?_
              exact hret (st, z) H locs _ _ (⟨(by (repeat' split) <;> first | rfl | omega | contradiction | (exfalso; simp_all; done) | (exfalso; simp_all; omega)), (by (repeat' split) <;> first | rfl | omega | contradiction | (exfalso; simp_all; done) | (exfalso; simp_all; omega))⟩) hP hD hS dX4_set_81
            · skip
              refine lv_aload_n hx hb dX4_set_69 rfl (lv_at hl 1 rfl) ?_
              refine va_get (D := D) (ci := 4) (v := .int (iI bo)) (C := RX4) (T := TX4) (N := 39) hx hb hts iX4 hown hK.1 hP 0 rfl rfl 11 (by decide) (hts (.fieldLink RX4 36 "CloseClocksModel" "boost" "I") (by decide +kernel)) (fun _ h9 => h9) rfl dX4_set_70 ?_
              refine lv_goto (tgt := 77) hx hb dX4_set_73 (by decide) ?_
              refine va_put (D := D) (ci := 4) (v := .int (iI bo)) (ty := .int) (C := RX4) (T := TX4) (N := 39) hx hb hts iX4 tyX4 tyX4_ok nmX4 hown hK.1 hP hD hS 0 rfl rfl 11 (by decide) (hts (.fieldLink RX4 36 "CloseClocksModel" "boost" "I") (by decide +kernel)) (fun _ h9 => h9) rfl (by decide +kernel) rfl rfl (Nat.le_of_ble_eq_true rfl) dX4_set_77 (fun H locs hP hD hS => ?_)
              have hP : va_P D vwCl (mdW cI cZ h m1 m4 m5 m6 m7 m8 m9 m21 m22 m23 m24 m25 m26 m30 m31 m32 m33 m34 m35 pl nd lk st bo ti te nr ml nn nl du nO nT wm wb ik kt kl hh pg dl er ra ck fa ft nw tu tc tr tf tt kc kr ke kd kf kg) H := hP
              have hD : va_D A (mdW cI cZ h m1 m4 m5 m6 m7 m8 m9 m21 m22 m23 m24 m25 m26 m30 m31 m32 m33 m34 m35 pl nd lk st bo ti te nr ml nn nl du nO nT wm wb ik kt kl hh pg dl er ra ck fa ft nw tu tc tr tf tt kc kr ke kd kf kg) := hD
              refine lv_iload_n hx hb dX4_set_80 rfl (lv_at hl 0 rfl) ?_
              refine kx_top (b := (if ¬ ((0 ≤ q ∧ q ≤ 1) ∧ (1 ≤ z ∧ z ≤ (if q = 0 then 500 else 60))) then -100000003 else if q = 0 then st else bo)) (by (repeat' split) <;> first | rfl | omega | contradiction | (exfalso; simp_all; done) | (exfalso; simp_all; omega)) ?_
              exact hret (st, bo) H locs _ _ (⟨(by (repeat' split) <;> first | rfl | omega | contradiction | (exfalso; simp_all; done) | (exfalso; simp_all; omega)), (by (repeat' split) <;> first | rfl | omega | contradiction | (exfalso; simp_all; done) | (exfalso; simp_all; omega))⟩) hP hD hS dX4_set_81
          · skip
            refine lv_iload_n hx hb dX4_set_53 rfl (lv_at hl 3 rfl) ?_
            refine lv_goto (tgt := 61) hx hb dX4_set_54 (by decide) ?_
            refine va_put (D := D) (ci := 4) (v := .int (iI z)) (ty := .int) (C := RX4) (T := TX4) (N := 39) hx hb hts iX4 tyX4 tyX4_ok nmX4 hown hK.1 hP hD hS 0 rfl rfl 10 (by decide) (hts (.fieldLink RX4 32 "CloseClocksModel" "step" "I") (by decide +kernel)) (fun _ h9 => h9) rfl (by decide +kernel) rfl rfl (Nat.le_of_ble_eq_true rfl) dX4_set_61 (fun H locs hP hD hS => ?_)
            have hP : va_P D vwCl (mdW cI cZ h m1 m4 m5 m6 m7 m8 m9 m21 m22 m23 m24 m25 m26 m30 m31 m32 m33 m34 m35 pl nd lk z bo ti te nr ml nn nl du nO nT wm wb ik kt kl hh pg dl er ra ck fa ft nw tu tc tr tf tt kc kr ke kd kf kg) H := hP
            have hD : va_D A (mdW cI cZ h m1 m4 m5 m6 m7 m8 m9 m21 m22 m23 m24 m25 m26 m30 m31 m32 m33 m34 m35 pl nd lk z bo ti te nr ml nn nl du nO nT wm wb ik kt kl hh pg dl er ra ck fa ft nw tu tc tr tf tt kc kr ke kd kf kg) := hD
            refine lv_aload_n hx hb dX4_set_64 rfl (lv_at hl 1 rfl) ?_
            refine lv_iload_n hx hb dX4_set_65 rfl (lv_at hl 2 rfl) ?_
            refine kx_if_ne (tgt := 76) hx hb (by omega) dX4_set_66 (by decide) (fun h66 => ?_) (fun h66 => ?_)
            · skip
              refine lv_iload_n hx hb dX4_set_76 rfl (lv_at hl 3 rfl) ?_
              refine va_put (D := D) (ci := 4) (v := .int (iI z)) (ty := .int) (C := RX4) (T := TX4) (N := 39) hx hb hts iX4 tyX4 tyX4_ok nmX4 hown hK.1 hP hD hS 0 rfl rfl 11 (by decide) (hts (.fieldLink RX4 36 "CloseClocksModel" "boost" "I") (by decide +kernel)) (fun _ h9 => h9) rfl (by decide +kernel) rfl rfl (Nat.le_of_ble_eq_true rfl) dX4_set_77 (fun H locs hP hD hS => ?_)
              have hP : va_P D vwCl (mdW cI cZ h m1 m4 m5 m6 m7 m8 m9 m21 m22 m23 m24 m25 m26 m30 m31 m32 m33 m34 m35 pl nd lk z z ti te nr ml nn nl du nO nT wm wb ik kt kl hh pg dl er ra ck fa ft nw tu tc tr tf tt kc kr ke kd kf kg) H := hP
              have hD : va_D A (mdW cI cZ h m1 m4 m5 m6 m7 m8 m9 m21 m22 m23 m24 m25 m26 m30 m31 m32 m33 m34 m35 pl nd lk z z ti te nr ml nn nl du nO nT wm wb ik kt kl hh pg dl er ra ck fa ft nw tu tc tr tf tt kc kr ke kd kf kg) := hD
              refine lv_iload_n hx hb dX4_set_80 rfl (lv_at hl 0 rfl) ?_
              refine kx_top (b := (if ¬ ((0 ≤ q ∧ q ≤ 1) ∧ (1 ≤ z ∧ z ≤ (if q = 0 then 500 else 60))) then -100000003 else if q = 0 then st else bo)) (by (repeat' split) <;> first | rfl | omega | contradiction | (exfalso; simp_all; done) | (exfalso; simp_all; omega)) ?_
              exact hret (z, z) H locs _ _ (⟨(by (repeat' split) <;> first | rfl | omega | contradiction | (exfalso; simp_all; done) | (exfalso; simp_all; omega)), (by (repeat' split) <;> first | rfl | omega | contradiction | (exfalso; simp_all; done) | (exfalso; simp_all; omega))⟩) hP hD hS dX4_set_81
            · skip
              refine lv_aload_n hx hb dX4_set_69 rfl (lv_at hl 1 rfl) ?_
              refine va_get (D := D) (ci := 4) (v := .int (iI bo)) (C := RX4) (T := TX4) (N := 39) hx hb hts iX4 hown hK.1 hP 0 rfl rfl 11 (by decide) (hts (.fieldLink RX4 36 "CloseClocksModel" "boost" "I") (by decide +kernel)) (fun _ h9 => h9) rfl dX4_set_70 ?_
              refine lv_goto (tgt := 77) hx hb dX4_set_73 (by decide) ?_
              refine va_put (D := D) (ci := 4) (v := .int (iI bo)) (ty := .int) (C := RX4) (T := TX4) (N := 39) hx hb hts iX4 tyX4 tyX4_ok nmX4 hown hK.1 hP hD hS 0 rfl rfl 11 (by decide) (hts (.fieldLink RX4 36 "CloseClocksModel" "boost" "I") (by decide +kernel)) (fun _ h9 => h9) rfl (by decide +kernel) rfl rfl (Nat.le_of_ble_eq_true rfl) dX4_set_77 (fun H locs hP hD hS => ?_)
              have hP : va_P D vwCl (mdW cI cZ h m1 m4 m5 m6 m7 m8 m9 m21 m22 m23 m24 m25 m26 m30 m31 m32 m33 m34 m35 pl nd lk z bo ti te nr ml nn nl du nO nT wm wb ik kt kl hh pg dl er ra ck fa ft nw tu tc tr tf tt kc kr ke kd kf kg) H := hP
              have hD : va_D A (mdW cI cZ h m1 m4 m5 m6 m7 m8 m9 m21 m22 m23 m24 m25 m26 m30 m31 m32 m33 m34 m35 pl nd lk z bo ti te nr ml nn nl du nO nT wm wb ik kt kl hh pg dl er ra ck fa ft nw tu tc tr tf tt kc kr ke kd kf kg) := hD
              refine lv_iload_n hx hb dX4_set_80 rfl (lv_at hl 0 rfl) ?_
              refine kx_top (b := (if ¬ ((0 ≤ q ∧ q ≤ 1) ∧ (1 ≤ z ∧ z ≤ (if q = 0 then 500 else 60))) then -100000003 else if q = 0 then st else bo)) (by (repeat' split) <;> first | rfl | omega | contradiction | (exfalso; simp_all; done) | (exfalso; simp_all; omega)) ?_
              exact hret (z, bo) H locs _ _ (⟨(by (repeat' split) <;> first | rfl | omega | contradiction | (exfalso; simp_all; done) | (exfalso; simp_all; omega)), (by (repeat' split) <;> first | rfl | omega | contradiction | (exfalso; simp_all; done) | (exfalso; simp_all; omega))⟩) hP hD hS dX4_set_81
      · skip
        refine kx_ldc (z := -100000003) hx hb hown (hts (.constant RX4 79 (-100000003)) (by decide +kernel)) dX4_set_29 (by decide) ?_
        refine kx_top (b := (if ¬ ((0 ≤ q ∧ q ≤ 1) ∧ (1 ≤ z ∧ z ≤ (if q = 0 then 500 else 60))) then -100000003 else if q = 0 then st else bo)) (by (repeat' split) <;> first | rfl | omega | contradiction | (exfalso; simp_all; done) | (exfalso; simp_all; omega)) ?_
        exact hret (st, bo) H locs _ _ (⟨(by (repeat' split) <;> first | rfl | omega | contradiction | (exfalso; simp_all; done) | (exfalso; simp_all; omega)), (by (repeat' split) <;> first | rfl | omega | contradiction | (exfalso; simp_all; done) | (exfalso; simp_all; omega))⟩) hP hD hS dX4_set_31
def rm_X4_rate : Room := ({ frames := 2, cells := 0, slots := 0, locals := 43 } : Room)
set_option maxHeartbeats 4000000 in
set_option maxRecDepth 100000 in
theorem c_X4_rate (l : Launch) (D : va_G) (cI cZ : ClassId) (h m1 m4 m5 m6 m7 m8 m9 m21 m22 m23 m24 m25 m26 m30 m31 m32 m33 m34 m35 : Nat) (pl nd lk st bo ti te nr ml nn nl du nO nT wm wb ik kt kl : Int) (hh : Int64) (pg dl er ra ck fa ft nw tu tc tr tf tt kc kr ke kd kf kg : Nat → Int) (z x : Int) (hnd : 0 ≤ nd ∧ nd ≤ 6) (hz : -2147483648 ≤ z ∧ z < 2147483648) (hx9 : -2147483648 ≤ x ∧ x < 2147483648) : kWR l yX4_rate wsX4_rate rm_X4_rate D cI cZ [.ref h, .int (iI z), .int (iI x)] (mdW cI cZ h m1 m4 m5 m6 m7 m8 m9 m21 m22 m23 m24 m25 m26 m30 m31 m32 m33 m34 m35 pl nd lk st bo ti te nr ml nn nl du nO nT wm wb ik kt kl hh pg dl er ra ck fa ft nw tu tc tr tf tt kc kr ke kd kf kg) (fun u : (Nat → Int) => some (.int (iI (if ¬ (0 ≤ z ∧ z ≤ nd - 1) then -100000002 else if ¬ (90 ≤ x ∧ x ≤ 110) then -100000003 else ra z.toNat)))) (fun u : (Nat → Int) => u = (if ((0 ≤ z ∧ z ≤ nd - 1) ∧ (90 ≤ x ∧ x ≤ 110)) then va_up ra z.toNat x else ra)) (fun u : (Nat → Int) => mdW cI cZ h m1 m4 m5 m6 m7 m8 m9 m21 m22 m23 m24 m25 m26 m30 m31 m32 m33 m34 m35 pl nd lk st bo ti te nr ml nn nl du nO nT wm wb ik kt kl hh pg dl er u ck fa ft nw tu tc tr tf tt kc kr ke kd kf kg) 0 0 := by
  refine kx_WRi (cc := cX4_rate) (maxL := 4) (by decide) rfl (Nat.le_of_ble_eq_true rfl) ?_
  intro pr en s mi args below meth co Q A hx hb hml hown hts hK hin hA hP hD hS hret ls hl
  have hown : s.vm.findClass RX4 = some mi.cls := hown
  have iX4 : ∀ w ∈ wsX40, w ∈ wsX4_rate := by decide +kernel
  have hl : lv_has ls 4 [(0, .ref h), (1, .int (iI z)), (2, .int (iI x))] := hl
  generalize hH0 : s.heap = H0 at hA hP hS hret ⊢
  obtain ⟨H, hH⟩ : ∃ H : Heap, H = H0 := ⟨_, rfl⟩
  obtain ⟨locs, hlocs⟩ : ∃ locs : List Loc, locs = [] := ⟨_, rfl⟩
  have hS : va_S A H0 H locs := by rw [hH, hlocs]; exact hS
  have hP : va_P D vwCl (mdW cI cZ h m1 m4 m5 m6 m7 m8 m9 m21 m22 m23 m24 m25 m26 m30 m31 m32 m33 m34 m35 pl nd lk st bo ti te nr ml nn nl du nO nT wm wb ik kt kl hh pg dl er ra ck fa ft nw tu tc tr tf tt kc kr ke kd kf kg) H := by rw [hH]; exact hP
  suffices hgo : W pr l en rm_X4_rate s mi args below meth co H locs 0 0 Q (F0 mi 0 ls []) by rw [hH, hlocs] at hgo; exact hgo
  clear hH hlocs
  refine lv_aload_n hx hb dX4_rate_0 rfl (lv_at hl 0 rfl) ?_
  refine lv_iload_n hx hb dX4_rate_1 rfl (lv_at hl 1 rfl) ?_
  refine kx_cV (As := [.int (iI z)]) (rest := []) (st1 := [.int (iI (if (0 ≤ z ∧ z ≤ (nd - 1)) then 1 else 0))]) (q0 := 0) (ci := 4) ⟨hx, hb, hml, hown, hts⟩ (c_X4_isNode l D cI cZ h m1 m4 m5 m6 m7 m8 m9 m21 m22 m23 m24 m25 m26 m30 m31 m32 m33 m34 m35 pl nd lk st bo ti te nr ml nn nl du nO nT wm wb ik kt kl hh pg dl er ra ck fa ft nw tu tc tr tf tt kc kr ke kd kf kg z (by first | assumption | omega) (by first | assumption | omega)) (cwV 1 hts gX4_rate_X4_isNode rfl rfl rfl (by decide +kernel) ⟨Nat.le_of_ble_eq_true rfl, Nat.le_of_ble_eq_true rfl⟩) hK hP rfl rfl rfl hl.1 rfl (Nat.le_of_ble_eq_true rfl) dX4_rate_2 ⟨Nat.zero_le _, Nat.zero_le _⟩ rfl ?_
  refine kx_if_neB (tgt := 11) hx hb dX4_rate_5 (by decide) (fun h5 => ?_) (fun h5 => ?_)
  · skip
    refine lv_iload_n hx hb dX4_rate_11 rfl (lv_at hl 2 rfl) ?_
    refine kx_bipush (z := 90) hx hb dX4_rate_12 (by decide) ?_
    refine kx_bipush (z := 110) hx hb dX4_rate_14 (by decide) ?_
    refine kx_cS (As := [.int (iI x), .int (iI 90), .int (iI 110)]) (rest := []) (st1 := [.int (iI (if (90 ≤ x ∧ x ≤ 110) then 1 else 0))]) ⟨hx, hb, hml, hown, hts⟩ (c_X4_within l D cI cZ x 90 110 (by first | assumption | omega) (by first | assumption | omega) (by first | assumption | omega)) (va_cwS 3 hts gX4_rate_X4_within rfl rfl rfl (by decide +kernel) ⟨Nat.le_of_ble_eq_true rfl, Nat.le_of_ble_eq_true rfl⟩) hK (hP.sub (ws' := []) [] rfl) rfl hl.1 rfl (Nat.le_of_ble_eq_true rfl) dX4_rate_16 ⟨Nat.zero_le _, Nat.zero_le _⟩ rfl ?_
    refine kx_if_neB (tgt := 25) hx hb dX4_rate_19 (by decide) (fun h19 => ?_) (fun h19 => ?_)
    · skip
      refine lv_aload_n hx hb dX4_rate_25 rfl (lv_at hl 0 rfl) ?_
      refine va_get (D := D) (ci := 4) (v := .ref m6) (C := RX4) (T := TX4) (N := 39) hx hb hts iX4 hown hK.1 hP 0 rfl rfl 6 (by decide) (hts (.fieldLink RX4 19 "CloseClocksModel" "rateOf" "[I") (by decide +kernel)) (fun _ h9 => h9) rfl dX4_rate_26 ?_
      refine lv_iload_n hx hb dX4_rate_29 rfl (lv_at hl 1 rfl) ?_
      refine kx_iald (k := z.toNat) hx hb hK hP 4 rfl (by omega) (by omega) (by decide) dX4_rate_30 ?_
      refine lv_istore_n (lv' := [(3, .int (iI (ra z.toNat))), (0, .ref h), (1, .int (iI z)), (2, .int (iI x))]) hx hb dX4_rate_31 rfl hl (by decide) rfl (fun ls hl => ?_)
      refine lv_aload_n hx hb dX4_rate_32 rfl (lv_at hl 1 rfl) ?_
      refine va_get (D := D) (ci := 4) (v := .ref m6) (C := RX4) (T := TX4) (N := 39) hx hb hts iX4 hown hK.1 hP 0 rfl rfl 6 (by decide) (hts (.fieldLink RX4 19 "CloseClocksModel" "rateOf" "[I") (by decide +kernel)) (fun _ h9 => h9) rfl dX4_rate_33 ?_
      refine lv_iload_n hx hb dX4_rate_36 rfl (lv_at hl 2 rfl) ?_
      refine lv_iload_n hx hb dX4_rate_37 rfl (lv_at hl 3 rfl) ?_
      refine kx_iast (k := z.toNat) (x := x) hx hb hK hP hD hS 4 rfl (by omega) (by omega) (by decide) dX4_rate_38 (fun H locs hP hD hS => ?_)
      have hP : va_P D vwCl (mdW cI cZ h m1 m4 m5 m6 m7 m8 m9 m21 m22 m23 m24 m25 m26 m30 m31 m32 m33 m34 m35 pl nd lk st bo ti te nr ml nn nl du nO nT wm wb ik kt kl hh pg dl er (va_up ra z.toNat x) ck fa ft nw tu tc tr tf tt kc kr ke kd kf kg) H := hP
      have hD : va_D A (mdW cI cZ h m1 m4 m5 m6 m7 m8 m9 m21 m22 m23 m24 m25 m26 m30 m31 m32 m33 m34 m35 pl nd lk st bo ti te nr ml nn nl du nO nT wm wb ik kt kl hh pg dl er (va_up ra z.toNat x) ck fa ft nw tu tc tr tf tt kc kr ke kd kf kg) := hD
      refine lv_iload_n hx hb dX4_rate_39 rfl (lv_at hl 0 rfl) ?_
      refine kx_top (b := (if ¬ (0 ≤ z ∧ z ≤ nd - 1) then -100000002 else if ¬ (90 ≤ x ∧ x ≤ 110) then -100000003 else ra z.toNat)) (by (repeat' split) <;> first | rfl | omega | contradiction | (exfalso; simp_all; done) | (exfalso; simp_all; omega)) ?_
      exact hret (va_up ra z.toNat x) H locs _ _ (by (repeat' split) <;> first | rfl | omega | contradiction | (exfalso; simp_all; done) | (exfalso; simp_all; omega)) hP hD hS dX4_rate_40
    · skip
      refine kx_ldc (z := -100000003) hx hb hown (hts (.constant RX4 79 (-100000003)) (by decide +kernel)) dX4_rate_22 (by decide) ?_
      refine kx_top (b := (if ¬ (0 ≤ z ∧ z ≤ nd - 1) then -100000002 else if ¬ (90 ≤ x ∧ x ≤ 110) then -100000003 else ra z.toNat)) (by (repeat' split) <;> first | rfl | omega | contradiction | (exfalso; simp_all; done) | (exfalso; simp_all; omega)) ?_
      exact hret ra H locs _ _ (by (repeat' split) <;> first | rfl | omega | contradiction | (exfalso; simp_all; done) | (exfalso; simp_all; omega)) hP hD hS dX4_rate_24
  · skip
    refine kx_ldc (z := -100000002) hx hb hown (hts (.constant RX4 138 (-100000002)) (by decide +kernel)) dX4_rate_8 (by decide) ?_
    refine kx_top (b := (if ¬ (0 ≤ z ∧ z ≤ nd - 1) then -100000002 else if ¬ (90 ≤ x ∧ x ≤ 110) then -100000003 else ra z.toNat)) (by (repeat' split) <;> first | rfl | omega | contradiction | (exfalso; simp_all; done) | (exfalso; simp_all; omega)) ?_
    exact hret ra H locs _ _ (by (repeat' split) <;> first | rfl | omega | contradiction | (exfalso; simp_all; done) | (exfalso; simp_all; omega)) hP hD hS dX4_rate_10
def rm_X4_put : Room := ({ frames := 2, cells := 0, slots := 0, locals := 43 } : Room)
set_option maxHeartbeats 4000000 in
set_option maxRecDepth 100000 in
theorem c_X4_put (l : Launch) (D : va_G) (cI cZ : ClassId) (h m1 m4 m5 m6 m7 m8 m9 m21 m22 m23 m24 m25 m26 m30 m31 m32 m33 m34 m35 : Nat) (pl nd lk st bo ti te nr ml nn nl du nO nT wm wb ik kt kl : Int) (hh : Int64) (pg dl er ra ck fa ft nw tu tc tr tf tt kc kr ke kd kf kg : Nat → Int) (z x : Int) (hnd : 0 ≤ nd ∧ nd ≤ 6) (hz : -2147483648 ≤ z ∧ z < 2147483648) (hx9 : -2147483648 ≤ x ∧ x < 2147483648) : kWR l yX4_put wsX4_put rm_X4_put D cI cZ [.ref h, .int (iI z), .int (iI x)] (mdW cI cZ h m1 m4 m5 m6 m7 m8 m9 m21 m22 m23 m24 m25 m26 m30 m31 m32 m33 m34 m35 pl nd lk st bo ti te nr ml nn nl du nO nT wm wb ik kt kl hh pg dl er ra ck fa ft nw tu tc tr tf tt kc kr ke kd kf kg) (fun u : (Nat → Int) => some (.int (iI (if ¬ (0 ≤ z ∧ z ≤ nd - 1) then -100000002 else if ¬ (0 ≤ x ∧ x ≤ 1000000) then -100000003 else ck (4 * z.toNat))))) (fun u : (Nat → Int) => u = (if ((0 ≤ z ∧ z ≤ nd - 1) ∧ (0 ≤ x ∧ x ≤ 1000000)) then stC ck z.toNat x else ck)) (fun u : (Nat → Int) => mdW cI cZ h m1 m4 m5 m6 m7 m8 m9 m21 m22 m23 m24 m25 m26 m30 m31 m32 m33 m34 m35 pl nd lk st bo ti te nr ml nn nl du nO nT wm wb ik kt kl hh pg dl er ra u fa ft nw tu tc tr tf tt kc kr ke kd kf kg) 0 0 := by
  refine kx_WRi (cc := cX4_put) (maxL := 4) (by decide) rfl (Nat.le_of_ble_eq_true rfl) ?_
  intro pr en s mi args below meth co Q A hx hb hml hown hts hK hin hA hP hD hS hret ls hl
  have hown : s.vm.findClass RX4 = some mi.cls := hown
  have iX4 : ∀ w ∈ wsX40, w ∈ wsX4_put := by decide +kernel
  have hl : lv_has ls 4 [(0, .ref h), (1, .int (iI z)), (2, .int (iI x))] := hl
  generalize hH0 : s.heap = H0 at hA hP hS hret ⊢
  obtain ⟨H, hH⟩ : ∃ H : Heap, H = H0 := ⟨_, rfl⟩
  obtain ⟨locs, hlocs⟩ : ∃ locs : List Loc, locs = [] := ⟨_, rfl⟩
  have hS : va_S A H0 H locs := by rw [hH, hlocs]; exact hS
  have hP : va_P D vwCl (mdW cI cZ h m1 m4 m5 m6 m7 m8 m9 m21 m22 m23 m24 m25 m26 m30 m31 m32 m33 m34 m35 pl nd lk st bo ti te nr ml nn nl du nO nT wm wb ik kt kl hh pg dl er ra ck fa ft nw tu tc tr tf tt kc kr ke kd kf kg) H := by rw [hH]; exact hP
  suffices hgo : W pr l en rm_X4_put s mi args below meth co H locs 0 0 Q (F0 mi 0 ls []) by rw [hH, hlocs] at hgo; exact hgo
  clear hH hlocs
  refine lv_aload_n hx hb dX4_put_0 rfl (lv_at hl 0 rfl) ?_
  refine lv_iload_n hx hb dX4_put_1 rfl (lv_at hl 1 rfl) ?_
  refine kx_cV (As := [.int (iI z)]) (rest := []) (st1 := [.int (iI (if (0 ≤ z ∧ z ≤ (nd - 1)) then 1 else 0))]) (q0 := 0) (ci := 4) ⟨hx, hb, hml, hown, hts⟩ (c_X4_isNode l D cI cZ h m1 m4 m5 m6 m7 m8 m9 m21 m22 m23 m24 m25 m26 m30 m31 m32 m33 m34 m35 pl nd lk st bo ti te nr ml nn nl du nO nT wm wb ik kt kl hh pg dl er ra ck fa ft nw tu tc tr tf tt kc kr ke kd kf kg z (by first | assumption | omega) (by first | assumption | omega)) (cwV 1 hts gX4_put_X4_isNode rfl rfl rfl (by decide +kernel) ⟨Nat.le_of_ble_eq_true rfl, Nat.le_of_ble_eq_true rfl⟩) hK hP rfl rfl rfl hl.1 rfl (Nat.le_of_ble_eq_true rfl) dX4_put_2 ⟨Nat.zero_le _, Nat.zero_le _⟩ rfl ?_
  refine kx_if_neB (tgt := 11) hx hb dX4_put_5 (by decide) (fun h5 => ?_) (fun h5 => ?_)
  · skip
    refine lv_iload_n hx hb dX4_put_11 rfl (lv_at hl 2 rfl) ?_
    refine kx_const (z := 0) hx hb dX4_put_12 rfl ?_
    refine kx_ldc (z := 1000000) hx hb hown (hts (.constant RX4 139 (1000000)) (by decide +kernel)) dX4_put_13 (by decide) ?_
    refine kx_cS (As := [.int (iI x), .int (iI 0), .int (iI 1000000)]) (rest := []) (st1 := [.int (iI (if (0 ≤ x ∧ x ≤ 1000000) then 1 else 0))]) ⟨hx, hb, hml, hown, hts⟩ (c_X4_within l D cI cZ x 0 1000000 (by first | assumption | omega) (by first | assumption | omega) (by first | assumption | omega)) (va_cwS 3 hts gX4_put_X4_within rfl rfl rfl (by decide +kernel) ⟨Nat.le_of_ble_eq_true rfl, Nat.le_of_ble_eq_true rfl⟩) hK (hP.sub (ws' := []) [] rfl) rfl hl.1 rfl (Nat.le_of_ble_eq_true rfl) dX4_put_15 ⟨Nat.zero_le _, Nat.zero_le _⟩ rfl ?_
    refine kx_if_neB (tgt := 24) hx hb dX4_put_18 (by decide) (fun h18 => ?_) (fun h18 => ?_)
    · skip
      refine lv_aload_n hx hb dX4_put_24 rfl (lv_at hl 0 rfl) ?_
      refine va_get (D := D) (ci := 4) (v := .ref m7) (C := RX4) (T := TX4) (N := 39) hx hb hts iX4 hown hK.1 hP 0 rfl rfl 7 (by decide) (hts (.fieldLink RX4 22 "CloseClocksModel" "clockAt" "[I") (by decide +kernel)) (fun _ h9 => h9) rfl dX4_put_25 ?_
      refine kx_const (z := 4) hx hb dX4_put_28 rfl ?_
      refine lv_iload_n hx hb dX4_put_29 rfl (lv_at hl 1 rfl) ?_
      refine kx_imul hx hb dX4_put_30 ?_
      refine kx_iald (k := (4 * z.toNat)) hx hb hK hP 5 rfl (by omega) (by omega) (by decide) dX4_put_31 ?_
      refine lv_istore_n (lv' := [(3, .int (iI (ck (4 * z.toNat)))), (0, .ref h), (1, .int (iI z)), (2, .int (iI x))]) hx hb dX4_put_32 rfl hl (by decide) rfl (fun ls hl => ?_)
      refine lv_aload_n hx hb dX4_put_33 rfl (lv_at hl 1 rfl) ?_
      refine lv_iload_n hx hb dX4_put_34 rfl (lv_at hl 2 rfl) ?_
      refine kx_top (b := ((z.toNat : Nat) : Int)) (by omega) ?_
      refine lv_iload_n hx hb dX4_put_35 rfl (lv_at hl 3 rfl) ?_
      refine kx_cVW (As := [.int (iI ((z.toNat : Nat) : Int)), .int (iI x)]) (rest := []) (wr := []) (q0 := 0) (ci := 4) ⟨hx, hb, hml, hown, hts⟩ (c_X4_setClock l D cI cZ h m1 m4 m5 m6 m7 m8 m9 m21 m22 m23 m24 m25 m26 m30 m31 m32 m33 m34 m35 pl nd lk st bo ti te nr ml nn nl du nO nT wm wb ik kt kl hh pg dl er ra ck fa ft nw tu tc tr tf tt kc kr ke kd kf kg (z.toNat) x (by first | assumption | omega)) (cwV 2 hts gX4_put_X4_setClock rfl rfl rfl (by decide +kernel) ⟨Nat.le_of_ble_eq_true rfl, Nat.le_of_ble_eq_true rfl⟩) hK hP hD hS hA [0, 1, 2, 3, 4, 5, 6, 7, 8, 9, 10, 11, 12, 13, 14, 15, 16, 17, 18, 19] [] rfl rfl (by decide) (by decide) (by decide) rfl rfl rfl hl.1 rfl (Nat.le_of_ble_eq_true rfl) dX4_put_36 ⟨Nat.le_of_ble_eq_true rfl, Nat.le_of_ble_eq_true rfl⟩ (fun u H locs hq hP hD hS => ?_)
      have hP : va_P D vwCl (mdW cI cZ h m1 m4 m5 m6 m7 m8 m9 m21 m22 m23 m24 m25 m26 m30 m31 m32 m33 m34 m35 pl nd lk st bo ti te nr ml nn nl du nO nT wm wb ik kt kl hh pg dl er ra (stC ck (z.toNat) x) fa ft nw tu tc tr tf tt kc kr ke kd kf kg) H := hP.sub [0, 1, 2, 3, 4, 5, 6, 7, 8, 9, 10, 11, 12, 13, 14, 15, 16, 17, 18, 19] rfl
      have hD : va_D A (mdW cI cZ h m1 m4 m5 m6 m7 m8 m9 m21 m22 m23 m24 m25 m26 m30 m31 m32 m33 m34 m35 pl nd lk st bo ti te nr ml nn nl du nO nT wm wb ik kt kl hh pg dl er ra (stC ck (z.toNat) x) fa ft nw tu tc tr tf tt kc kr ke kd kf kg) := hD.sub [0, 1, 2, 3, 4, 5, 6, 7, 8, 9, 10, 11, 12, 13, 14, 15, 16, 17, 18, 19] (by decide) rfl
      refine W.eq (g2 := F0 mi 39 ls []) rfl ?_
      refine lv_iload_n hx hb dX4_put_39 rfl (lv_at hl 0 rfl) ?_
      refine kx_top (b := (if ¬ (0 ≤ z ∧ z ≤ nd - 1) then -100000002 else if ¬ (0 ≤ x ∧ x ≤ 1000000) then -100000003 else ck (4 * z.toNat))) (by (repeat' split) <;> first | rfl | omega | contradiction | (exfalso; simp_all; done) | (exfalso; simp_all; omega)) ?_
      exact hret (stC ck (z.toNat) x) H locs _ _ (by (repeat' split) <;> first | rfl | omega | contradiction | (exfalso; simp_all; done) | (exfalso; simp_all; omega)) hP hD hS dX4_put_40
    · skip
      refine kx_ldc (z := -100000003) hx hb hown (hts (.constant RX4 79 (-100000003)) (by decide +kernel)) dX4_put_21 (by decide) ?_
      refine kx_top (b := (if ¬ (0 ≤ z ∧ z ≤ nd - 1) then -100000002 else if ¬ (0 ≤ x ∧ x ≤ 1000000) then -100000003 else ck (4 * z.toNat))) (by (repeat' split) <;> first | rfl | omega | contradiction | (exfalso; simp_all; done) | (exfalso; simp_all; omega)) ?_
      exact hret ck H locs _ _ (by (repeat' split) <;> first | rfl | omega | contradiction | (exfalso; simp_all; done) | (exfalso; simp_all; omega)) hP hD hS dX4_put_23
  · skip
    refine kx_ldc (z := -100000002) hx hb hown (hts (.constant RX4 138 (-100000002)) (by decide +kernel)) dX4_put_8 (by decide) ?_
    refine kx_top (b := (if ¬ (0 ≤ z ∧ z ≤ nd - 1) then -100000002 else if ¬ (0 ≤ x ∧ x ≤ 1000000) then -100000003 else ck (4 * z.toNat))) (by (repeat' split) <;> first | rfl | omega | contradiction | (exfalso; simp_all; done) | (exfalso; simp_all; omega)) ?_
    exact hret ck H locs _ _ (by (repeat' split) <;> first | rfl | omega | contradiction | (exfalso; simp_all; done) | (exfalso; simp_all; omega)) hP hD hS dX4_put_10
def rm_X4_wrong : Room := ({ frames := 3, cells := 0, slots := 0, locals := 65 } : Room)
set_option maxHeartbeats 4000000 in
set_option maxRecDepth 100000 in
theorem c_X4_wrong (l : Launch) (D : va_G) (cI cZ : ClassId) (h m1 m4 m5 m6 m7 m8 m9 m21 m22 m23 m24 m25 m26 m30 m31 m32 m33 m34 m35 : Nat) (pl nd lk st bo ti te nr ml nn nl du nO nT wm wb ik kt kl : Int) (hh : Int64) (pg dl er ra ck fa ft nw tu tc tr tf tt kc kr ke kd kf kg : Nat → Int) (z w x : Int) (hnd : 0 ≤ nd ∧ nd ≤ 6) (hdl : ∀ k : Nat, k < 36 → dl k = -100000001 ∨ (0 ≤ dl k ∧ dl k ≤ 3)) (hz : -2147483648 ≤ z ∧ z < 2147483648) (hw : -2147483648 ≤ w ∧ w < 2147483648) (hx9 : -2147483648 ≤ x ∧ x < 2147483648) : kWR l yX4_wrong wsX4_wrong rm_X4_wrong D cI cZ [.ref h, .int (iI z), .int (iI w), .int (iI x)] (mdW cI cZ h m1 m4 m5 m6 m7 m8 m9 m21 m22 m23 m24 m25 m26 m30 m31 m32 m33 m34 m35 pl nd lk st bo ti te nr ml nn nl du nO nT wm wb ik kt kl hh pg dl er ra ck fa ft nw tu tc tr tf tt kc kr ke kd kf kg) (fun u : (Nat → Int) => some (.int (iI (if ¬ mB dl nd z w = true then -100000002 else if ¬ (-9 ≤ x ∧ x ≤ 9) then -100000003 else er (6 * z + w).toNat)))) (fun u : (Nat → Int) => u = (if (mB dl nd z w = true ∧ (-9 ≤ x ∧ x ≤ 9)) then va_up er (6 * z + w).toNat x else er)) (fun u : (Nat → Int) => mdW cI cZ h m1 m4 m5 m6 m7 m8 m9 m21 m22 m23 m24 m25 m26 m30 m31 m32 m33 m34 m35 pl nd lk st bo ti te nr ml nn nl du nO nT wm wb ik kt kl hh pg dl u ra ck fa ft nw tu tc tr tf tt kc kr ke kd kf kg) 0 0 := by
  refine kx_WRi (cc := cX4_wrong) (maxL := 5) (by decide) rfl (Nat.le_of_ble_eq_true rfl) ?_
  intro pr en s mi args below meth co Q A hx hb hml hown hts hK hin hA hP hD hS hret ls hl
  have hown : s.vm.findClass RX4 = some mi.cls := hown
  have iX4 : ∀ w ∈ wsX40, w ∈ wsX4_wrong := by decide +kernel
  have hl : lv_has ls 5 [(0, .ref h), (1, .int (iI z)), (2, .int (iI w)), (3, .int (iI x))] := hl
  generalize hH0 : s.heap = H0 at hA hP hS hret ⊢
  obtain ⟨H, hH⟩ : ∃ H : Heap, H = H0 := ⟨_, rfl⟩
  obtain ⟨locs, hlocs⟩ : ∃ locs : List Loc, locs = [] := ⟨_, rfl⟩
  have hS : va_S A H0 H locs := by rw [hH, hlocs]; exact hS
  have hP : va_P D vwCl (mdW cI cZ h m1 m4 m5 m6 m7 m8 m9 m21 m22 m23 m24 m25 m26 m30 m31 m32 m33 m34 m35 pl nd lk st bo ti te nr ml nn nl du nO nT wm wb ik kt kl hh pg dl er ra ck fa ft nw tu tc tr tf tt kc kr ke kd kf kg) H := by rw [hH]; exact hP
  suffices hgo : W pr l en rm_X4_wrong s mi args below meth co H locs 0 0 Q (F0 mi 0 ls []) by rw [hH, hlocs] at hgo; exact hgo
  clear hH hlocs
  refine lv_aload_n hx hb dX4_wrong_0 rfl (lv_at hl 0 rfl) ?_
  refine lv_iload_n hx hb dX4_wrong_1 rfl (lv_at hl 1 rfl) ?_
  refine lv_iload_n hx hb dX4_wrong_2 rfl (lv_at hl 2 rfl) ?_
  refine kx_cV (As := [.int (iI z), .int (iI w)]) (rest := []) (st1 := [.int (iI (if (mB dl nd z w = true) then 1 else 0))]) (q0 := 0) (ci := 4) ⟨hx, hb, hml, hown, hts⟩ (c_X4_areBeside l D cI cZ h m1 m4 m5 m6 m7 m8 m9 m21 m22 m23 m24 m25 m26 m30 m31 m32 m33 m34 m35 pl nd lk st bo ti te nr ml nn nl du nO nT wm wb ik kt kl hh pg dl er ra ck fa ft nw tu tc tr tf tt kc kr ke kd kf kg z w (by first | assumption | omega) (by first | assumption | omega) (by first | assumption | omega) (by first | assumption | omega)) (cwV 2 hts gX4_wrong_X4_areBeside rfl rfl rfl (by decide +kernel) ⟨Nat.le_of_ble_eq_true rfl, Nat.le_of_ble_eq_true rfl⟩) hK hP rfl rfl rfl hl.1 rfl (Nat.le_of_ble_eq_true rfl) dX4_wrong_3 ⟨Nat.zero_le _, Nat.zero_le _⟩ rfl ?_
  refine kx_if_neB (tgt := 12) hx hb dX4_wrong_6 (by decide) (fun h6 => ?_) (fun h6 => ?_)
  · skip
    refine lv_iload_n hx hb dX4_wrong_12 rfl (lv_at hl 3 rfl) ?_
    refine kx_bipush (z := -9) hx hb dX4_wrong_13 (by decide) ?_
    refine kx_bipush (z := 9) hx hb dX4_wrong_15 (by decide) ?_
    refine kx_cS (As := [.int (iI x), .int (iI (-9)), .int (iI 9)]) (rest := []) (st1 := [.int (iI (if ((-9) ≤ x ∧ x ≤ 9) then 1 else 0))]) ⟨hx, hb, hml, hown, hts⟩ (c_X4_within l D cI cZ x (-9) 9 (by first | assumption | omega) (by first | assumption | omega) (by first | assumption | omega)) (va_cwS 3 hts gX4_wrong_X4_within rfl rfl rfl (by decide +kernel) ⟨Nat.le_of_ble_eq_true rfl, Nat.le_of_ble_eq_true rfl⟩) hK (hP.sub (ws' := []) [] rfl) rfl hl.1 rfl (Nat.le_of_ble_eq_true rfl) dX4_wrong_17 ⟨Nat.zero_le _, Nat.zero_le _⟩ rfl ?_
    refine kx_if_neB (tgt := 26) hx hb dX4_wrong_20 (by decide) (fun h20 => ?_) (fun h20 => ?_)
    · skip
      have hbs := mB_iff.mp h6
      refine lv_aload_n hx hb dX4_wrong_26 rfl (lv_at hl 0 rfl) ?_
      refine va_get (D := D) (ci := 4) (v := .ref m5) (C := RX4) (T := TX4) (N := 39) hx hb hts iX4 hown hK.1 hP 0 rfl rfl 5 (by decide) (hts (.fieldLink RX4 16 "CloseClocksModel" "errorOf" "[I") (by decide +kernel)) (fun _ h9 => h9) rfl dX4_wrong_27 ?_
      refine kx_bipush (z := 6) hx hb dX4_wrong_30 (by decide) ?_
      refine lv_iload_n hx hb dX4_wrong_32 rfl (lv_at hl 1 rfl) ?_
      refine kx_imul hx hb dX4_wrong_33 ?_
      refine lv_iload_n hx hb dX4_wrong_34 rfl (lv_at hl 2 rfl) ?_
      refine kx_iadd hx hb dX4_wrong_35 ?_
      refine kx_iald (k := ((6 * z + w).toNat)) hx hb hK hP 3 rfl (by omega) (by omega) (by decide) dX4_wrong_36 ?_
      refine lv_istore (lv' := [(4, .int (iI (er ((6 * z + w).toNat)))), (0, .ref h), (1, .int (iI z)), (2, .int (iI w)), (3, .int (iI x))]) hx hb dX4_wrong_37 hl (by decide) rfl (fun ls hl => ?_)
      refine lv_aload_n hx hb dX4_wrong_39 rfl (lv_at hl 1 rfl) ?_
      refine va_get (D := D) (ci := 4) (v := .ref m5) (C := RX4) (T := TX4) (N := 39) hx hb hts iX4 hown hK.1 hP 0 rfl rfl 5 (by decide) (hts (.fieldLink RX4 16 "CloseClocksModel" "errorOf" "[I") (by decide +kernel)) (fun _ h9 => h9) rfl dX4_wrong_40 ?_
      refine kx_bipush (z := 6) hx hb dX4_wrong_43 (by decide) ?_
      refine lv_iload_n hx hb dX4_wrong_45 rfl (lv_at hl 2 rfl) ?_
      refine kx_imul hx hb dX4_wrong_46 ?_
      refine lv_iload_n hx hb dX4_wrong_47 rfl (lv_at hl 3 rfl) ?_
      refine kx_iadd hx hb dX4_wrong_48 ?_
      refine lv_iload_n hx hb dX4_wrong_49 rfl (lv_at hl 4 rfl) ?_
      refine kx_iast (k := ((6 * z + w).toNat)) (x := x) hx hb hK hP hD hS 3 rfl (by omega) (by omega) (by decide) dX4_wrong_50 (fun H locs hP hD hS => ?_)
      have hP : va_P D vwCl (mdW cI cZ h m1 m4 m5 m6 m7 m8 m9 m21 m22 m23 m24 m25 m26 m30 m31 m32 m33 m34 m35 pl nd lk st bo ti te nr ml nn nl du nO nT wm wb ik kt kl hh pg dl (va_up er ((6 * z + w).toNat) x) ra ck fa ft nw tu tc tr tf tt kc kr ke kd kf kg) H := hP
      have hD : va_D A (mdW cI cZ h m1 m4 m5 m6 m7 m8 m9 m21 m22 m23 m24 m25 m26 m30 m31 m32 m33 m34 m35 pl nd lk st bo ti te nr ml nn nl du nO nT wm wb ik kt kl hh pg dl (va_up er ((6 * z + w).toNat) x) ra ck fa ft nw tu tc tr tf tt kc kr ke kd kf kg) := hD
      refine lv_iload hx hb dX4_wrong_51 (lv_at hl 0 rfl) ?_
      refine kx_top (b := (if ¬ mB dl nd z w = true then -100000002 else if ¬ (-9 ≤ x ∧ x ≤ 9) then -100000003 else er (6 * z + w).toNat)) (by (repeat' split) <;> first | rfl | omega | contradiction | (exfalso; simp_all; done) | (exfalso; simp_all; omega)) ?_
      exact hret (va_up er ((6 * z + w).toNat) x) H locs _ _ (by (repeat' split) <;> first | rfl | omega | contradiction | (exfalso; simp_all; done) | (exfalso; simp_all; omega)) hP hD hS dX4_wrong_53
    · skip
      refine kx_ldc (z := -100000003) hx hb hown (hts (.constant RX4 79 (-100000003)) (by decide +kernel)) dX4_wrong_23 (by decide) ?_
      refine kx_top (b := (if ¬ mB dl nd z w = true then -100000002 else if ¬ (-9 ≤ x ∧ x ≤ 9) then -100000003 else er (6 * z + w).toNat)) (by (repeat' split) <;> first | rfl | omega | contradiction | (exfalso; simp_all; done) | (exfalso; simp_all; omega)) ?_
      exact hret er H locs _ _ (by (repeat' split) <;> first | rfl | omega | contradiction | (exfalso; simp_all; done) | (exfalso; simp_all; omega)) hP hD hS dX4_wrong_25
  · skip
    refine kx_ldc (z := -100000002) hx hb hown (hts (.constant RX4 138 (-100000002)) (by decide +kernel)) dX4_wrong_9 (by decide) ?_
    refine kx_top (b := (if ¬ mB dl nd z w = true then -100000002 else if ¬ (-9 ≤ x ∧ x ≤ 9) then -100000003 else er (6 * z + w).toNat)) (by (repeat' split) <;> first | rfl | omega | contradiction | (exfalso; simp_all; done) | (exfalso; simp_all; omega)) ?_
    exact hret er H locs _ _ (by (repeat' split) <;> first | rfl | omega | contradiction | (exfalso; simp_all; done) | (exfalso; simp_all; omega)) hP hD hS dX4_wrong_11
def rm_X4_delay : Room := ({ frames := 3, cells := 0, slots := 0, locals := 65 } : Room)
set_option maxHeartbeats 4000000 in
set_option maxRecDepth 100000 in
theorem c_X4_delay (l : Launch) (D : va_G) (cI cZ : ClassId) (h m1 m4 m5 m6 m7 m8 m9 m21 m22 m23 m24 m25 m26 m30 m31 m32 m33 m34 m35 : Nat) (pl nd lk st bo ti te nr ml nn nl du nO nT wm wb ik kt kl : Int) (hh : Int64) (pg dl er ra ck fa ft nw tu tc tr tf tt kc kr ke kd kf kg : Nat → Int) (z w x : Int) (hnd : 0 ≤ nd ∧ nd ≤ 6) (hdl : ∀ k : Nat, k < 36 → dl k = -100000001 ∨ (0 ≤ dl k ∧ dl k ≤ 3)) (hz : -2147483648 ≤ z ∧ z < 2147483648) (hw : -2147483648 ≤ w ∧ w < 2147483648) (hx9 : -2147483648 ≤ x ∧ x < 2147483648) : kWR l yX4_delay wsX4_delay rm_X4_delay D cI cZ [.ref h, .int (iI z), .int (iI w), .int (iI x)] (mdW cI cZ h m1 m4 m5 m6 m7 m8 m9 m21 m22 m23 m24 m25 m26 m30 m31 m32 m33 m34 m35 pl nd lk st bo ti te nr ml nn nl du nO nT wm wb ik kt kl hh pg dl er ra ck fa ft nw tu tc tr tf tt kc kr ke kd kf kg) (fun u : (Nat → Int) => some (.int (iI (if ¬ mB dl nd z w = true then -100000002 else if ¬ (0 ≤ x ∧ x ≤ 3) then -100000003 else dl (6 * z + w).toNat)))) (fun u : (Nat → Int) => u = (if (mB dl nd z w = true ∧ (0 ≤ x ∧ x ≤ 3)) then va_up (va_up dl (6 * z + w).toNat x) (6 * w + z).toNat x else dl)) (fun u : (Nat → Int) => mdW cI cZ h m1 m4 m5 m6 m7 m8 m9 m21 m22 m23 m24 m25 m26 m30 m31 m32 m33 m34 m35 pl nd lk st bo ti te nr ml nn nl du nO nT wm wb ik kt kl hh pg u er ra ck fa ft nw tu tc tr tf tt kc kr ke kd kf kg) 0 0 := by
  refine kx_WRi (cc := cX4_delay) (maxL := 5) (by decide) rfl (Nat.le_of_ble_eq_true rfl) ?_
  intro pr en s mi args below meth co Q A hx hb hml hown hts hK hin hA hP hD hS hret ls hl
  have hown : s.vm.findClass RX4 = some mi.cls := hown
  have iX4 : ∀ w ∈ wsX40, w ∈ wsX4_delay := by decide +kernel
  have hl : lv_has ls 5 [(0, .ref h), (1, .int (iI z)), (2, .int (iI w)), (3, .int (iI x))] := hl
  generalize hH0 : s.heap = H0 at hA hP hS hret ⊢
  obtain ⟨H, hH⟩ : ∃ H : Heap, H = H0 := ⟨_, rfl⟩
  obtain ⟨locs, hlocs⟩ : ∃ locs : List Loc, locs = [] := ⟨_, rfl⟩
  have hS : va_S A H0 H locs := by rw [hH, hlocs]; exact hS
  have hP : va_P D vwCl (mdW cI cZ h m1 m4 m5 m6 m7 m8 m9 m21 m22 m23 m24 m25 m26 m30 m31 m32 m33 m34 m35 pl nd lk st bo ti te nr ml nn nl du nO nT wm wb ik kt kl hh pg dl er ra ck fa ft nw tu tc tr tf tt kc kr ke kd kf kg) H := by rw [hH]; exact hP
  suffices hgo : W pr l en rm_X4_delay s mi args below meth co H locs 0 0 Q (F0 mi 0 ls []) by rw [hH, hlocs] at hgo; exact hgo
  clear hH hlocs
  refine lv_aload_n hx hb dX4_delay_0 rfl (lv_at hl 0 rfl) ?_
  refine lv_iload_n hx hb dX4_delay_1 rfl (lv_at hl 1 rfl) ?_
  refine lv_iload_n hx hb dX4_delay_2 rfl (lv_at hl 2 rfl) ?_
  refine kx_cV (As := [.int (iI z), .int (iI w)]) (rest := []) (st1 := [.int (iI (if (mB dl nd z w = true) then 1 else 0))]) (q0 := 0) (ci := 4) ⟨hx, hb, hml, hown, hts⟩ (c_X4_areBeside l D cI cZ h m1 m4 m5 m6 m7 m8 m9 m21 m22 m23 m24 m25 m26 m30 m31 m32 m33 m34 m35 pl nd lk st bo ti te nr ml nn nl du nO nT wm wb ik kt kl hh pg dl er ra ck fa ft nw tu tc tr tf tt kc kr ke kd kf kg z w (by first | assumption | omega) (by first | assumption | omega) (by first | assumption | omega) (by first | assumption | omega)) (cwV 2 hts gX4_delay_X4_areBeside rfl rfl rfl (by decide +kernel) ⟨Nat.le_of_ble_eq_true rfl, Nat.le_of_ble_eq_true rfl⟩) hK hP rfl rfl rfl hl.1 rfl (Nat.le_of_ble_eq_true rfl) dX4_delay_3 ⟨Nat.zero_le _, Nat.zero_le _⟩ rfl ?_
  refine kx_if_neB (tgt := 12) hx hb dX4_delay_6 (by decide) (fun h6 => ?_) (fun h6 => ?_)
  · skip
    refine lv_iload_n hx hb dX4_delay_12 rfl (lv_at hl 3 rfl) ?_
    refine kx_const (z := 0) hx hb dX4_delay_13 rfl ?_
    refine kx_const (z := 3) hx hb dX4_delay_14 rfl ?_
    refine kx_cS (As := [.int (iI x), .int (iI 0), .int (iI 3)]) (rest := []) (st1 := [.int (iI (if (0 ≤ x ∧ x ≤ 3) then 1 else 0))]) ⟨hx, hb, hml, hown, hts⟩ (c_X4_within l D cI cZ x 0 3 (by first | assumption | omega) (by first | assumption | omega) (by first | assumption | omega)) (va_cwS 3 hts gX4_delay_X4_within rfl rfl rfl (by decide +kernel) ⟨Nat.le_of_ble_eq_true rfl, Nat.le_of_ble_eq_true rfl⟩) hK (hP.sub (ws' := []) [] rfl) rfl hl.1 rfl (Nat.le_of_ble_eq_true rfl) dX4_delay_15 ⟨Nat.zero_le _, Nat.zero_le _⟩ rfl ?_
    refine kx_if_neB (tgt := 24) hx hb dX4_delay_18 (by decide) (fun h18 => ?_) (fun h18 => ?_)
    · skip
      have hbs := mB_iff.mp h6
      refine lv_aload_n hx hb dX4_delay_24 rfl (lv_at hl 0 rfl) ?_
      refine va_get (D := D) (ci := 4) (v := .ref m4) (C := RX4) (T := TX4) (N := 39) hx hb hts iX4 hown hK.1 hP 0 rfl rfl 4 (by decide) (hts (.fieldLink RX4 13 "CloseClocksModel" "delayOf" "[I") (by decide +kernel)) (fun _ h9 => h9) rfl dX4_delay_25 ?_
      refine kx_bipush (z := 6) hx hb dX4_delay_28 (by decide) ?_
      refine lv_iload_n hx hb dX4_delay_30 rfl (lv_at hl 1 rfl) ?_
      refine kx_imul hx hb dX4_delay_31 ?_
      refine lv_iload_n hx hb dX4_delay_32 rfl (lv_at hl 2 rfl) ?_
      refine kx_iadd hx hb dX4_delay_33 ?_
      refine kx_iald (k := ((6 * z + w).toNat)) hx hb hK hP 2 rfl (by omega) (by omega) (by decide) dX4_delay_34 ?_
      refine lv_istore (lv' := [(4, .int (iI (dl ((6 * z + w).toNat)))), (0, .ref h), (1, .int (iI z)), (2, .int (iI w)), (3, .int (iI x))]) hx hb dX4_delay_35 hl (by decide) rfl (fun ls hl => ?_)
      refine lv_aload_n hx hb dX4_delay_37 rfl (lv_at hl 1 rfl) ?_
      refine va_get (D := D) (ci := 4) (v := .ref m4) (C := RX4) (T := TX4) (N := 39) hx hb hts iX4 hown hK.1 hP 0 rfl rfl 4 (by decide) (hts (.fieldLink RX4 13 "CloseClocksModel" "delayOf" "[I") (by decide +kernel)) (fun _ h9 => h9) rfl dX4_delay_38 ?_
      refine kx_bipush (z := 6) hx hb dX4_delay_41 (by decide) ?_
      refine lv_iload_n hx hb dX4_delay_43 rfl (lv_at hl 2 rfl) ?_
      refine kx_imul hx hb dX4_delay_44 ?_
      refine lv_iload_n hx hb dX4_delay_45 rfl (lv_at hl 3 rfl) ?_
      refine kx_iadd hx hb dX4_delay_46 ?_
      refine lv_iload_n hx hb dX4_delay_47 rfl (lv_at hl 4 rfl) ?_
      refine kx_iast (k := ((6 * z + w).toNat)) (x := x) hx hb hK hP hD hS 2 rfl (by omega) (by omega) (by decide) dX4_delay_48 (fun H locs hP hD hS => ?_)
      have hP : va_P D vwCl (mdW cI cZ h m1 m4 m5 m6 m7 m8 m9 m21 m22 m23 m24 m25 m26 m30 m31 m32 m33 m34 m35 pl nd lk st bo ti te nr ml nn nl du nO nT wm wb ik kt kl hh pg (va_up dl ((6 * z + w).toNat) x) er ra ck fa ft nw tu tc tr tf tt kc kr ke kd kf kg) H := hP
      have hD : va_D A (mdW cI cZ h m1 m4 m5 m6 m7 m8 m9 m21 m22 m23 m24 m25 m26 m30 m31 m32 m33 m34 m35 pl nd lk st bo ti te nr ml nn nl du nO nT wm wb ik kt kl hh pg (va_up dl ((6 * z + w).toNat) x) er ra ck fa ft nw tu tc tr tf tt kc kr ke kd kf kg) := hD
      refine lv_aload_n hx hb dX4_delay_49 rfl (lv_at hl 1 rfl) ?_
      refine va_get (D := D) (ci := 4) (v := .ref m4) (C := RX4) (T := TX4) (N := 39) hx hb hts iX4 hown hK.1 hP 0 rfl rfl 4 (by decide) (hts (.fieldLink RX4 13 "CloseClocksModel" "delayOf" "[I") (by decide +kernel)) (fun _ h9 => h9) rfl dX4_delay_50 ?_
      refine kx_bipush (z := 6) hx hb dX4_delay_53 (by decide) ?_
      refine lv_iload_n hx hb dX4_delay_55 rfl (lv_at hl 3 rfl) ?_
      refine kx_imul hx hb dX4_delay_56 ?_
      refine lv_iload_n hx hb dX4_delay_57 rfl (lv_at hl 2 rfl) ?_
      refine kx_iadd hx hb dX4_delay_58 ?_
      refine lv_iload_n hx hb dX4_delay_59 rfl (lv_at hl 4 rfl) ?_
      refine kx_iast (k := ((6 * w + z).toNat)) (x := x) hx hb hK hP hD hS 2 rfl (by omega) (by omega) (by decide) dX4_delay_60 (fun H locs hP hD hS => ?_)
      have hP : va_P D vwCl (mdW cI cZ h m1 m4 m5 m6 m7 m8 m9 m21 m22 m23 m24 m25 m26 m30 m31 m32 m33 m34 m35 pl nd lk st bo ti te nr ml nn nl du nO nT wm wb ik kt kl hh pg (va_up (va_up dl ((6 * z + w).toNat) x) ((6 * w + z).toNat) x) er ra ck fa ft nw tu tc tr tf tt kc kr ke kd kf kg) H := hP
      have hD : va_D A (mdW cI cZ h m1 m4 m5 m6 m7 m8 m9 m21 m22 m23 m24 m25 m26 m30 m31 m32 m33 m34 m35 pl nd lk st bo ti te nr ml nn nl du nO nT wm wb ik kt kl hh pg (va_up (va_up dl ((6 * z + w).toNat) x) ((6 * w + z).toNat) x) er ra ck fa ft nw tu tc tr tf tt kc kr ke kd kf kg) := hD
      refine lv_iload hx hb dX4_delay_61 (lv_at hl 0 rfl) ?_
      refine kx_top (b := (if ¬ mB dl nd z w = true then -100000002 else if ¬ (0 ≤ x ∧ x ≤ 3) then -100000003 else dl (6 * z + w).toNat)) (by (repeat' split) <;> first | rfl | omega | contradiction | (exfalso; simp_all; done) | (exfalso; simp_all; omega)) ?_
      exact hret (va_up (va_up dl ((6 * z + w).toNat) x) ((6 * w + z).toNat) x) H locs _ _ (by (repeat' split) <;> first | rfl | omega | contradiction | (exfalso; simp_all; done) | (exfalso; simp_all; omega)) hP hD hS dX4_delay_63
    · skip
      refine kx_ldc (z := -100000003) hx hb hown (hts (.constant RX4 79 (-100000003)) (by decide +kernel)) dX4_delay_21 (by decide) ?_
      refine kx_top (b := (if ¬ mB dl nd z w = true then -100000002 else if ¬ (0 ≤ x ∧ x ≤ 3) then -100000003 else dl (6 * z + w).toNat)) (by (repeat' split) <;> first | rfl | omega | contradiction | (exfalso; simp_all; done) | (exfalso; simp_all; omega)) ?_
      exact hret dl H locs _ _ (by (repeat' split) <;> first | rfl | omega | contradiction | (exfalso; simp_all; done) | (exfalso; simp_all; omega)) hP hD hS dX4_delay_23
  · skip
    refine kx_ldc (z := -100000002) hx hb hown (hts (.constant RX4 138 (-100000002)) (by decide +kernel)) dX4_delay_9 (by decide) ?_
    refine kx_top (b := (if ¬ mB dl nd z w = true then -100000002 else if ¬ (0 ≤ x ∧ x ≤ 3) then -100000003 else dl (6 * z + w).toNat)) (by (repeat' split) <;> first | rfl | omega | contradiction | (exfalso; simp_all; done) | (exfalso; simp_all; omega)) ?_
    exact hret dl H locs _ _ (by (repeat' split) <;> first | rfl | omega | contradiction | (exfalso; simp_all; done) | (exfalso; simp_all; omega)) hP hD hS dX4_delay_11
