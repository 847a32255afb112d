def rm_X4_setClock : Room := ({ frames := 0, cells := 0, slots := 0, locals := 0 } : Room)
set_option maxHeartbeats 4000000 in
set_option maxRecDepth 100000 in
theorem c_X4_setClock (l : Launch) (D : va_G) (cI cZ : ClassId) (h m1 m4 m5 m6 m7 m8 m9 m21 m22 m23 m24 m25 m26 m30 m31 m32 m33 m34 m35 : Nat) (pl nd lk st bo ti te nr ml nn nl du nO nT wm wb ik kt kl : Int) (hh : Int64) (pg dl er ra ck fa ft nw tu tc tr tf tt kc kr ke kd kf kg : Nat → Int) (v : Nat) (z : Int) (hv : v < 6) : kWR l yX4_setClock wsX4_setClock rm_X4_setClock D cI cZ [.ref h, .int (iI (v : Int)), .int (iI z)] (mdW cI cZ h m1 m4 m5 m6 m7 m8 m9 m21 m22 m23 m24 m25 m26 m30 m31 m32 m33 m34 m35 pl nd lk st bo ti te nr ml nn nl du nO nT wm wb ik kt kl hh pg dl er ra ck fa ft nw tu tc tr tf tt kc kr ke kd kf kg) (fun u : Unit => none) (fun u : Unit => True) (fun u : Unit => mdW cI cZ h m1 m4 m5 m6 m7 m8 m9 m21 m22 m23 m24 m25 m26 m30 m31 m32 m33 m34 m35 pl nd lk st bo ti te nr ml nn nl du nO nT wm wb ik kt kl hh pg dl er ra (stC ck v z) fa ft nw tu tc tr tf tt kc kr ke kd kf kg) 0 0 := by
  refine kx_WRv (cc := cX4_setClock) (maxL := 4) (by decide) rfl (Nat.le_of_ble_eq_true rfl) ?_
  intro pr en s mi args below meth co Q A hx hb hml hown hts hK hin hA hP hD hS hret ls hl
  have hown : s.vm.findClass RX4 = some mi.cls := hown
  have iX4 : ∀ w ∈ wsX40, w ∈ wsX4_setClock := by decide +kernel
  have hl : lv_has ls 4 [(0, .ref h), (1, .int (iI (v : Int))), (2, .int (iI z))] := hl
  generalize hH0 : s.heap = H0 at hA hP hS hret ⊢
  obtain ⟨H, hH⟩ : ∃ H : Heap, H = H0 := ⟨_, rfl⟩
  obtain ⟨locs, hlocs⟩ : ∃ locs : List Loc, locs = [] := ⟨_, rfl⟩
  have hS : va_S A H0 H locs := by rw [hH, hlocs]; exact hS
  have hP : va_P D vwCl (mdW cI cZ h m1 m4 m5 m6 m7 m8 m9 m21 m22 m23 m24 m25 m26 m30 m31 m32 m33 m34 m35 pl nd lk st bo ti te nr ml nn nl du nO nT wm wb ik kt kl hh pg dl er ra ck fa ft nw tu tc tr tf tt kc kr ke kd kf kg) H := by rw [hH]; exact hP
  suffices hgo : W pr l en rm_X4_setClock s mi args below meth co H locs 0 0 Q (F0 mi 0 ls []) by rw [hH, hlocs] at hgo; exact hgo
  clear hH hlocs
  refine kx_const (z := 0) hx hb dX4_setClock_0 rfl ?_
  refine lv_istore_n (lv' := [(3, .int (iI 0)), (0, .ref h), (1, .int (iI (v : Int))), (2, .int (iI z))]) hx hb dX4_setClock_1 rfl hl (by decide) rfl (fun ls hl => ?_)
  refine lv_iload_n hx hb dX4_setClock_2 rfl (lv_at hl 0 rfl) ?_
  refine kx_const (z := 4) hx hb dX4_setClock_3 rfl ?_
  refine kx_icmp_ge (tgt := 24) hx hb (by omega) (by omega) dX4_setClock_4 (by decide) (fun h4 => ?_) (fun h4 => ?_)
  · skip
    exfalso; omega
  · skip
    refine lv_aload_n hx hb dX4_setClock_7 rfl (lv_at hl 1 rfl) ?_
    refine va_get (D := D) (ci := 4) (v := .ref m7) (C := RX4) (T := TX4) (N := 39) hx hb hts iX4 hown hK.1 hP 0 rfl rfl 7 (by decide) (hts (.fieldLink RX4 22 "CloseClocksModel" "clockAt" "[I") (by decide +kernel)) (fun _ h9 => h9) rfl dX4_setClock_8 ?_
    refine kx_const (z := 4) hx hb dX4_setClock_11 rfl ?_
    refine lv_iload_n hx hb dX4_setClock_12 rfl (lv_at hl 2 rfl) ?_
    refine kx_imul hx hb dX4_setClock_13 ?_
    refine lv_iload_n hx hb dX4_setClock_14 rfl (lv_at hl 0 rfl) ?_
    refine kx_iadd hx hb dX4_setClock_15 ?_
    refine lv_iload_n hx hb dX4_setClock_16 rfl (lv_at hl 3 rfl) ?_
    refine kx_iast (k := ((4 * v) + 0)) (x := z) hx hb hK hP hD hS 5 rfl (by omega) (by omega) (by decide) dX4_setClock_17 (fun H locs hP hD hS => ?_)
    have hP : va_P D vwCl (mdW cI cZ h m1 m4 m5 m6 m7 m8 m9 m21 m22 m23 m24 m25 m26 m30 m31 m32 m33 m34 m35 pl nd lk st bo ti te nr ml nn nl du nO nT wm wb ik kt kl hh pg dl er ra (va_up ck ((4 * v) + 0) z) fa ft nw tu tc tr tf tt kc kr ke kd kf kg) H := hP
    have hD : va_D A (mdW cI cZ h m1 m4 m5 m6 m7 m8 m9 m21 m22 m23 m24 m25 m26 m30 m31 m32 m33 m34 m35 pl nd lk st bo ti te nr ml nn nl du nO nT wm wb ik kt kl hh pg dl er ra (va_up ck ((4 * v) + 0) z) fa ft nw tu tc tr tf tt kc kr ke kd kf kg) := hD
    refine kx_iinc (z := 1) (lv' := [(3, .int (iI 1)), (0, .ref h), (1, .int (iI (v : Int))), (2, .int (iI z))]) hx hb dX4_setClock_18 hl (k0 := 0) rfl (by omega) (by decide) rfl (fun ls hl => ?_)
    refine lv_goto (tgt := 2) hx hb dX4_setClock_21 (by decide) ?_
    refine lv_iload_n hx hb dX4_setClock_2 rfl (lv_at hl 0 rfl) ?_
    refine kx_const (z := 4) hx hb dX4_setClock_3 rfl ?_
    refine kx_icmp_ge (tgt := 24) hx hb (by omega) (by omega) dX4_setClock_4 (by decide) (fun h4 => ?_) (fun h4 => ?_)
    · skip
      exfalso; omega
    · skip
      refine lv_aload_n hx hb dX4_setClock_7 rfl (lv_at hl 1 rfl) ?_
      refine va_get (D := D) (ci := 4) (v := .ref m7) (C := RX4) (T := TX4) (N := 39) hx hb hts iX4 hown hK.1 hP 0 rfl rfl 7 (by decide) (hts (.fieldLink RX4 22 "CloseClocksModel" "clockAt" "[I") (by decide +kernel)) (fun _ h9 => h9) rfl dX4_setClock_8 ?_
      refine kx_const (z := 4) hx hb dX4_setClock_11 rfl ?_
      refine lv_iload_n hx hb dX4_setClock_12 rfl (lv_at hl 2 rfl) ?_
      refine kx_imul hx hb dX4_setClock_13 ?_
      refine lv_iload_n hx hb dX4_setClock_14 rfl (lv_at hl 0 rfl) ?_
      refine kx_iadd hx hb dX4_setClock_15 ?_
      refine lv_iload_n hx hb dX4_setClock_16 rfl (lv_at hl 3 rfl) ?_
      refine kx_iast (k := ((4 * v) + 1)) (x := z) hx hb hK hP hD hS 5 rfl (by omega) (by omega) (by decide) dX4_setClock_17 (fun H locs hP hD hS => ?_)
      have hP : va_P D vwCl (mdW cI cZ h m1 m4 m5 m6 m7 m8 m9 m21 m22 m23 m24 m25 m26 m30 m31 m32 m33 m34 m35 pl nd lk st bo ti te nr ml nn nl du nO nT wm wb ik kt kl hh pg dl er ra (va_up (va_up ck ((4 * v) + 0) z) ((4 * v) + 1) z) fa ft nw tu tc tr tf tt kc kr ke kd kf kg) H := hP
      have hD : va_D A (mdW cI cZ h m1 m4 m5 m6 m7 m8 m9 m21 m22 m23 m24 m25 m26 m30 m31 m32 m33 m34 m35 pl nd lk st bo ti te nr ml nn nl du nO nT wm wb ik kt kl hh pg dl er ra (va_up (va_up ck ((4 * v) + 0) z) ((4 * v) + 1) z) fa ft nw tu tc tr tf tt kc kr ke kd kf kg) := hD
      refine kx_iinc (z := 2) (lv' := [(3, .int (iI 2)), (0, .ref h), (1, .int (iI (v : Int))), (2, .int (iI z))]) hx hb dX4_setClock_18 hl (k0 := 0) rfl (by omega) (by decide) rfl (fun ls hl => ?_)
      refine lv_goto (tgt := 2) hx hb dX4_setClock_21 (by decide) ?_
      refine lv_iload_n hx hb dX4_setClock_2 rfl (lv_at hl 0 rfl) ?_
      refine kx_const (z := 4) hx hb dX4_setClock_3 rfl ?_
      refine kx_icmp_ge (tgt := 24) hx hb (by omega) (by omega) dX4_setClock_4 (by decide) (fun h4 => ?_) (fun h4 => ?_)
      · skip
        exfalso; omega
      · skip
        refine lv_aload_n hx hb dX4_setClock_7 rfl (lv_at hl 1 rfl) ?_
        refine va_get (D := D) (ci := 4) (v := .ref m7) (C := RX4) (T := TX4) (N := 39) hx hb hts iX4 hown hK.1 hP 0 rfl rfl 7 (by decide) (hts (.fieldLink RX4 22 "CloseClocksModel" "clockAt" "[I") (by decide +kernel)) (fun _ h9 => h9) rfl dX4_setClock_8 ?_
        refine kx_const (z := 4) hx hb dX4_setClock_11 rfl ?_
        refine lv_iload_n hx hb dX4_setClock_12 rfl (lv_at hl 2 rfl) ?_
        refine kx_imul hx hb dX4_setClock_13 ?_
        refine lv_iload_n hx hb dX4_setClock_14 rfl (lv_at hl 0 rfl) ?_
        refine kx_iadd hx hb dX4_setClock_15 ?_
        refine lv_iload_n hx hb dX4_setClock_16 rfl (lv_at hl 3 rfl) ?_
        refine kx_iast (k := ((4 * v) + 2)) (x := z) hx hb hK hP hD hS 5 rfl (by omega) (by omega) (by decide) dX4_setClock_17 (fun H locs hP hD hS => ?_)
        have hP : va_P D vwCl (mdW cI cZ h m1 m4 m5 m6 m7 m8 m9 m21 m22 m23 m24 m25 m26 m30 m31 m32 m33 m34 m35 pl nd lk st bo ti te nr ml nn nl du nO nT wm wb ik kt kl hh pg dl er ra (va_up (va_up (va_up ck ((4 * v) + 0) z) ((4 * v) + 1) z) ((4 * v) + 2) z) fa ft nw tu tc tr tf tt kc kr ke kd kf kg) H := hP
        have hD : va_D A (mdW cI cZ h m1 m4 m5 m6 m7 m8 m9 m21 m22 m23 m24 m25 m26 m30 m31 m32 m33 m34 m35 pl nd lk st bo ti te nr ml nn nl du nO nT wm wb ik kt kl hh pg dl er ra (va_up (va_up (va_up ck ((4 * v) + 0) z) ((4 * v) + 1) z) ((4 * v) + 2) z) fa ft nw tu tc tr tf tt kc kr ke kd kf kg) := hD
        refine kx_iinc (z := 3) (lv' := [(3, .int (iI 3)), (0, .ref h), (1, .int (iI (v : Int))), (2, .int (iI z))]) hx hb dX4_setClock_18 hl (k0 := 0) rfl (by omega) (by decide) rfl (fun ls hl => ?_)
        refine lv_goto (tgt := 2) hx hb dX4_setClock_21 (by decide) ?_
        refine lv_iload_n hx hb dX4_setClock_2 rfl (lv_at hl 0 rfl) ?_
        refine kx_const (z := 4) hx hb dX4_setClock_3 rfl ?_
        refine kx_icmp_ge (tgt := 24) hx hb (by omega) (by omega) dX4_setClock_4 (by decide) (fun h4 => ?_) (fun h4 => ?_)
        · skip
          exfalso; omega
        · skip
          refine lv_aload_n hx hb dX4_setClock_7 rfl (lv_at hl 1 rfl) ?_
          refine va_get (D := D) (ci := 4) (v := .ref m7) (C := RX4) (T := TX4) (N := 39) hx hb hts iX4 hown hK.1 hP 0 rfl rfl 7 (by decide) (hts (.fieldLink RX4 22 "CloseClocksModel" "clockAt" "[I") (by decide +kernel)) (fun _ h9 => h9) rfl dX4_setClock_8 ?_
          refine kx_const (z := 4) hx hb dX4_setClock_11 rfl ?_
          refine lv_iload_n hx hb dX4_setClock_12 rfl (lv_at hl 2 rfl) ?_
          refine kx_imul hx hb dX4_setClock_13 ?_
          refine lv_iload_n hx hb dX4_setClock_14 rfl (lv_at hl 0 rfl) ?_
          refine kx_iadd hx hb dX4_setClock_15 ?_
          refine lv_iload_n hx hb dX4_setClock_16 rfl (lv_at hl 3 rfl) ?_
          refine kx_iast (k := ((4 * v) + 3)) (x := z) hx hb hK hP hD hS 5 rfl (by omega) (by omega) (by decide) dX4_setClock_17 (fun H locs hP hD hS => ?_)
          have hP : va_P D vwCl (mdW cI cZ h m1 m4 m5 m6 m7 m8 m9 m21 m22 m23 m24 m25 m26 m30 m31 m32 m33 m34 m35 pl nd lk st bo ti te nr ml nn nl du nO nT wm wb ik kt kl hh pg dl er ra (va_up (va_up (va_up (va_up ck ((4 * v) + 0) z) ((4 * v) + 1) z) ((4 * v) + 2) z) ((4 * v) + 3) z) fa ft nw tu tc tr tf tt kc kr ke kd kf kg) H := hP
          have hD : va_D A (mdW cI cZ h m1 m4 m5 m6 m7 m8 m9 m21 m22 m23 m24 m25 m26 m30 m31 m32 m33 m34 m35 pl nd lk st bo ti te nr ml nn nl du nO nT wm wb ik kt kl hh pg dl er ra (va_up (va_up (va_up (va_up ck ((4 * v) + 0) z) ((4 * v) + 1) z) ((4 * v) + 2) z) ((4 * v) + 3) z) fa ft nw tu tc tr tf tt kc kr ke kd kf kg) := hD
          refine kx_iinc (z := 4) (lv' := [(3, .int (iI 4)), (0, .ref h), (1, .int (iI (v : Int))), (2, .int (iI z))]) hx hb dX4_setClock_18 hl (k0 := 0) rfl (by omega) (by decide) rfl (fun ls hl => ?_)
          refine lv_goto (tgt := 2) hx hb dX4_setClock_21 (by decide) ?_
          refine lv_iload_n hx hb dX4_setClock_2 rfl (lv_at hl 0 rfl) ?_
          refine kx_const (z := 4) hx hb dX4_setClock_3 rfl ?_
          refine kx_icmp_ge (tgt := 24) hx hb (by omega) (by omega) dX4_setClock_4 (by decide) (fun h4 => ?_) (fun h4 => ?_)
          · skip
            obtain ⟨hP, hD⟩ := kx_arr (g' := (stC ck v z)) hP hD 5 rfl (by intro k hk; simp only [va_up, stC]; (repeat' split) <;> first | rfl | omega)
            have hP : va_P D vwCl (mdW cI cZ h m1 m4 m5 m6 m7 m8 m9 m21 m22 m23 m24 m25 m26 m30 m31 m32 m33 m34 m35 pl nd lk st bo ti te nr ml nn nl du nO nT wm wb ik kt kl hh pg dl er ra (stC ck v z) fa ft nw tu tc tr tf tt kc kr ke kd kf kg) H := hP
            have hD : va_D A (mdW cI cZ h m1 m4 m5 m6 m7 m8 m9 m21 m22 m23 m24 m25 m26 m30 m31 m32 m33 m34 m35 pl nd lk st bo ti te nr ml nn nl du nO nT wm wb ik kt kl hh pg dl er ra (stC ck v z) fa ft nw tu tc tr tf tt kc kr ke kd kf kg) := hD
            exact hret () H locs _ _ (trivial) hP hD hS dX4_setClock_24
          · skip
            exfalso; omega
def rm_X4_tick : Room := ({ frames := 5, cells := 0, slots := 0, locals := 112 } : Room)
set_option maxHeartbeats 4000000 in
set_option maxRecDepth 100000 in
theorem c_X4_tick (l : Launch) (D : va_G) (cI cZ : ClassId) (h m1 m4 m5 m6 m7 m8 m9 m21 m22 m23 m24 m25 m26 m30 m31 m32 m33 m34 m35 : Nat) (pl nd lk st bo ti te nr ml nn nl du nO nT wm wb ik kt kl : Int) (hh : Int64) (pg dl er ra ck fa ft nw tu tc tr tf tt kc kr ke kd kf kg : Nat → Int)  (hnd : 0 ≤ nd ∧ nd ≤ 6) (hdl : ∀ k : Nat, k < 36 → dl k = -100000001 ∨ (0 ≤ dl k ∧ dl k ≤ 3)) (hck : ∀ k : Nat, k < 24 → 0 ≤ ck k ∧ ck k ≤ 50000000) (her : ∀ k : Nat, k < 36 → -9 ≤ er k ∧ er k ≤ 9) (hst : 1 ≤ st ∧ st ≤ 500) (hfa : ∀ k : Nat, k < 6 → fa k = 0 ∨ fa k = 1) (hra : ∀ k : Nat, k < 6 → 0 ≤ ra k ∧ ra k ≤ 110) : kWR l yX4_tick wsX4_tick rm_X4_tick D cI cZ [.ref h] (mdW cI cZ h m1 m4 m5 m6 m7 m8 m9 m21 m22 m23 m24 m25 m26 m30 m31 m32 m33 m34 m35 pl nd lk st bo ti te nr ml nn nl du nO nT wm wb ik kt kl hh pg dl er ra ck fa ft nw tu tc tr tf tt kc kr ke kd kf kg) (fun u : (Nat → Int) => none) (fun u : (Nat → Int) => True) (fun u : (Nat → Int) => mdW cI cZ h m1 m4 m5 m6 m7 m8 m9 m21 m22 m23 m24 m25 m26 m30 m31 m32 m33 m34 m35 pl nd lk st bo ti te nr ml nn nl du nO nT wm wb ik kt kl hh pg dl er ra (tCk ck dl er fa ra nd st bo) (tFa ck dl er fa nd st) (tFt ck dl er fa ft nd st) nw u tc tr tf tt kc kr ke kd kf kg) 0 0 := by
  refine kx_WRv (cc := cX4_tick) (maxL := 3) (by decide) rfl (Nat.le_of_ble_eq_true rfl) ?_
  intro pr en s mi args below meth co Q A hx hb hml hown hts hK hin hA hP hD hS hret ls hl
  have hown : s.vm.findClass RX4 = some mi.cls := hown
  have iX4 : ∀ w ∈ wsX40, w ∈ wsX4_tick := by decide +kernel
  have hl : lv_has ls 3 [(0, .ref h)] := hl
  generalize hH0 : s.heap = H0 at hA hP hS hret ⊢
  obtain ⟨H, hH⟩ : ∃ H : Heap, H = H0 := ⟨_, rfl⟩
  obtain ⟨locs, hlocs⟩ : ∃ locs : List Loc, locs = [] := ⟨_, rfl⟩
  have hS : va_S A H0 H locs := by rw [hH, hlocs]; exact hS
  have hP : va_P D vwCl (mdW cI cZ h m1 m4 m5 m6 m7 m8 m9 m21 m22 m23 m24 m25 m26 m30 m31 m32 m33 m34 m35 pl nd lk st bo ti te nr ml nn nl du nO nT wm wb ik kt kl hh pg dl er ra ck fa ft nw tu tc tr tf tt kc kr ke kd kf kg) H := by rw [hH]; exact hP
  suffices hgo : W pr l en rm_X4_tick s mi args below meth co H locs 0 0 Q (F0 mi 0 ls []) by rw [hH, hlocs] at hgo; exact hgo
  clear hH hlocs
  refine kx_const (z := 0) hx hb dX4_tick_0 rfl ?_
  refine lv_istore_n (lv' := [(1, .int (iI 0)), (0, .ref h)]) hx hb dX4_tick_1 rfl hl (by decide) rfl (fun ls hl => ?_)
  have L2 : ∀ (fu : Nat) (v : Nat) (g : Nat → Int), ((v : Int) ≤ nd) → (∀ k : Nat, k < v → g k = (mTu ck dl er nd st) k) → nd.toNat - v < fu → ∀ (H : Heap) (locs : List Loc), va_P D vwCl (mdW cI cZ h m1 m4 m5 m6 m7 m8 m9 m21 m22 m23 m24 m25 m26 m30 m31 m32 m33 m34 m35 pl nd lk st bo ti te nr ml nn nl du nO nT wm wb ik kt kl hh pg dl er ra ck fa ft nw g tc tr tf tt kc kr ke kd kf kg) H → va_D A (mdW cI cZ h m1 m4 m5 m6 m7 m8 m9 m21 m22 m23 m24 m25 m26 m30 m31 m32 m33 m34 m35 pl nd lk st bo ti te nr ml nn nl du nO nT wm wb ik kt kl hh pg dl er ra ck fa ft nw g tc tr tf tt kc kr ke kd kf kg) → va_S A H0 H locs → ∀ ls : Array Slot, lv_has ls 3 [(0, .ref h), (1, .int (iI (v : Int)))] → W pr l en rm_X4_tick s mi args below meth co H locs 0 0 Q (F0 mi 2 ls []) := by
    intro fu
    induction fu with
    | zero =>
      intro v g hv hg hfu
      exact absurd hfu (Nat.not_lt_zero _)
    | succ fu ih2 =>
      intro v g hv hg hfu H locs hP hD hS ls hl
      refine lv_iload_n hx hb dX4_tick_2 rfl (lv_at hl 1 rfl) ?_
      refine lv_aload_n hx hb dX4_tick_3 rfl (lv_at hl 0 rfl) ?_
      refine va_get (D := D) (ci := 4) (v := .int (iI nd)) (C := RX4) (T := TX4) (N := 39) hx hb hts iX4 hown hK.1 hP 0 rfl rfl 2 (by decide) (hts (.fieldLink RX4 112 "CloseClocksModel" "nodes" "I") (by decide +kernel)) (fun _ h9 => h9) rfl dX4_tick_4 ?_
      refine kx_icmp_ge (tgt := 51) hx hb (by omega) (by omega) dX4_tick_7 (by decide) (fun h7 => ?_) (fun h7 => ?_)
      · skip
        have hve : v = nd.toNat := by omega
        subst hve
        refine kx_const (z := 0) hx hb dX4_tick_51 rfl ?_
        refine lv_istore_n (lv' := [(1, .int (iI 0)), (0, .ref h)]) hx hb dX4_tick_52 rfl hl (by decide) rfl (fun ls hl => ?_)
        have L53 : ∀ (fu : Nat) (v : Nat) (ga : Nat → Int) (gt : Nat → Int) (gc : Nat → Int), ((v : Int) ≤ nd) → (∀ k : Nat, k < 6 → ga k = if k < v then (mFa (mTu ck dl er nd st) fa) k else fa k) → (∀ k : Nat, k < 6 → gt k = if k < v then (fun q => ft q + (mFa (mTu ck dl er nd st) fa) q) k else ft k) → (∀ k : Nat, k < 24 → gc k = if k / 4 < v then mCk ck ra (mFa (mTu ck dl er nd st) fa) bo k else ck k) → nd.toNat - v < fu → ∀ (H : Heap) (locs : List Loc), va_P D vwCl (mdW cI cZ h m1 m4 m5 m6 m7 m8 m9 m21 m22 m23 m24 m25 m26 m30 m31 m32 m33 m34 m35 pl nd lk st bo ti te nr ml nn nl du nO nT wm wb ik kt kl hh pg dl er ra gc ga gt nw g tc tr tf tt kc kr ke kd kf kg) H → va_D A (mdW cI cZ h m1 m4 m5 m6 m7 m8 m9 m21 m22 m23 m24 m25 m26 m30 m31 m32 m33 m34 m35 pl nd lk st bo ti te nr ml nn nl du nO nT wm wb ik kt kl hh pg dl er ra gc ga gt nw g tc tr tf tt kc kr ke kd kf kg) → va_S A H0 H locs → ∀ ls : Array Slot, lv_has ls 3 [(0, .ref h), (1, .int (iI (v : Int)))] → W pr l en rm_X4_tick s mi args below meth co H locs 0 0 Q (F0 mi 53 ls []) := by
          intro fu
          induction fu with
          | zero =>
            intro v ga gt gc hv2 hga hgt hgc hfu
            exact absurd hfu (Nat.not_lt_zero _)
          | succ fu ih53 =>
            intro v ga gt gc hv2 hga hgt hgc hfu H locs hP hD hS ls hl
            refine lv_iload_n hx hb dX4_tick_53 rfl (lv_at hl 1 rfl) ?_
            refine lv_aload_n hx hb dX4_tick_54 rfl (lv_at hl 0 rfl) ?_
            refine va_get (D := D) (ci := 4) (v := .int (iI nd)) (C := RX4) (T := TX4) (N := 39) hx hb hts iX4 hown hK.1 hP 0 rfl rfl 2 (by decide) (hts (.fieldLink RX4 112 "CloseClocksModel" "nodes" "I") (by decide +kernel)) (fun _ h9 => h9) rfl dX4_tick_55 ?_
            refine kx_icmp_ge (tgt := 198) hx hb (by omega) (by omega) dX4_tick_58 (by decide) (fun h58 => ?_) (fun h58 => ?_)
            · skip
              have hve2 : v = nd.toNat := by omega
              subst hve2
              obtain ⟨hP, hD⟩ := kx_arr (g' := (tFa ck dl er fa nd st)) hP hD 6 rfl (hga)
              have hP : va_P D vwCl (mdW cI cZ h m1 m4 m5 m6 m7 m8 m9 m21 m22 m23 m24 m25 m26 m30 m31 m32 m33 m34 m35 pl nd lk st bo ti te nr ml nn nl du nO nT wm wb ik kt kl hh pg dl er ra gc (tFa ck dl er fa nd st) gt nw g tc tr tf tt kc kr ke kd kf kg) H := hP
              have hD : va_D A (mdW cI cZ h m1 m4 m5 m6 m7 m8 m9 m21 m22 m23 m24 m25 m26 m30 m31 m32 m33 m34 m35 pl nd lk st bo ti te nr ml nn nl du nO nT wm wb ik kt kl hh pg dl er ra gc (tFa ck dl er fa nd st) gt nw g tc tr tf tt kc kr ke kd kf kg) := hD
              obtain ⟨hP, hD⟩ := kx_arr (g' := (tFt ck dl er fa ft nd st)) hP hD 7 rfl (hgt)
              have hP : va_P D vwCl (mdW cI cZ h m1 m4 m5 m6 m7 m8 m9 m21 m22 m23 m24 m25 m26 m30 m31 m32 m33 m34 m35 pl nd lk st bo ti te nr ml nn nl du nO nT wm wb ik kt kl hh pg dl er ra gc (tFa ck dl er fa nd st) (tFt ck dl er fa ft nd st) nw g tc tr tf tt kc kr ke kd kf kg) H := hP
              have hD : va_D A (mdW cI cZ h m1 m4 m5 m6 m7 m8 m9 m21 m22 m23 m24 m25 m26 m30 m31 m32 m33 m34 m35 pl nd lk st bo ti te nr ml nn nl du nO nT wm wb ik kt kl hh pg dl er ra gc (tFa ck dl er fa nd st) (tFt ck dl er fa ft nd st) nw g tc tr tf tt kc kr ke kd kf kg) := hD
              obtain ⟨hP, hD⟩ := kx_arr (g' := (tCk ck dl er fa ra nd st bo)) hP hD 5 rfl (hgc)
              have hP : va_P D vwCl (mdW cI cZ h m1 m4 m5 m6 m7 m8 m9 m21 m22 m23 m24 m25 m26 m30 m31 m32 m33 m34 m35 pl nd lk st bo ti te nr ml nn nl du nO nT wm wb ik kt kl hh pg dl er ra (tCk ck dl er fa ra nd st bo) (tFa ck dl er fa nd st) (tFt ck dl er fa ft nd st) nw g tc tr tf tt kc kr ke kd kf kg) H := hP
              have hD : va_D A (mdW cI cZ h m1 m4 m5 m6 m7 m8 m9 m21 m22 m23 m24 m25 m26 m30 m31 m32 m33 m34 m35 pl nd lk st bo ti te nr ml nn nl du nO nT wm wb ik kt kl hh pg dl er ra (tCk ck dl er fa ra nd st bo) (tFa ck dl er fa nd st) (tFt ck dl er fa ft nd st) nw g tc tr tf tt kc kr ke kd kf kg) := hD
              exact hret g H locs _ _ (trivial) hP hD hS dX4_tick_198
            · skip
              have hv6 : v < 6 := by omega
              have hgv : g v = (mTu ck dl er nd st) v := hg v (by omega)
              have hav : ga v = fa v := mix_at hga hv6
              have hfv := hfa v hv6
              have hgv4 : gc (4 * v) = ck (4 * v) := by rw [hgc _ (by omega), if_neg (by omega)]
              have htr : (mTu ck dl er nd st) v = 1 ∨ (mTu ck dl er nd st) v = -1 ∨ (mTu ck dl er nd st) v = 0 := by unfold mTu; (repeat' split) <;> omega
              have J99_1 : ∀ (x : Int), (x = (mFa (mTu ck dl er nd st) fa) v) → (x = 0 ∨ x = 1) → ∀ (H : Heap) (locs : List Loc), va_P D vwCl (mdW cI cZ h m1 m4 m5 m6 m7 m8 m9 m21 m22 m23 m24 m25 m26 m30 m31 m32 m33 m34 m35 pl nd lk st bo ti te nr ml nn nl du nO nT wm wb ik kt kl hh pg dl er ra gc ga gt nw g tc tr tf tt kc kr ke kd kf kg) H → va_D A (mdW cI cZ h m1 m4 m5 m6 m7 m8 m9 m21 m22 m23 m24 m25 m26 m30 m31 m32 m33 m34 m35 pl nd lk st bo ti te nr ml nn nl du nO nT wm wb ik kt kl hh pg dl er ra gc ga gt nw g tc tr tf tt kc kr ke kd kf kg) → va_S A H0 H locs → ∀ ls : Array Slot, lv_has ls 3 [(0, .ref h), (1, .int (iI (v : Int)))] → W pr l en rm_X4_tick s mi args below meth co H locs 0 0 Q (F0 mi 99 ls [.int (iI x), .int (iI (v : Int)), .ref m8]) := by
                intro x hx9 h01 H locs hP hD hS ls hl
                refine kx_zast (k := v) (x := x) hx hb hK hP hD hS 6 rfl (by omega) (by omega) (by decide) (by omega) dX4_tick_99 (fun H locs hP hD hS => ?_)
                have hP : va_P D vwCl (mdW cI cZ h m1 m4 m5 m6 m7 m8 m9 m21 m22 m23 m24 m25 m26 m30 m31 m32 m33 m34 m35 pl nd lk st bo ti te nr ml nn nl du nO nT wm wb ik kt kl hh pg dl er ra gc (va_up ga v x) gt nw g tc tr tf tt kc kr ke kd kf kg) H := hP
                have hD : va_D A (mdW cI cZ h m1 m4 m5 m6 m7 m8 m9 m21 m22 m23 m24 m25 m26 m30 m31 m32 m33 m34 m35 pl nd lk st bo ti te nr ml nn nl du nO nT wm wb ik kt kl hh pg dl er ra gc (va_up ga v x) gt nw g tc tr tf tt kc kr ke kd kf kg) := hD
                have J121_2 : ∀ (y : Int), (y = (mFa (mTu ck dl er nd st) fa) v) → ∀ (H : Heap) (locs : List Loc), va_P D vwCl (mdW cI cZ h m1 m4 m5 m6 m7 m8 m9 m21 m22 m23 m24 m25 m26 m30 m31 m32 m33 m34 m35 pl nd lk st bo ti te nr ml nn nl du nO nT wm wb ik kt kl hh pg dl er ra gc (va_up ga v x) gt nw g tc tr tf tt kc kr ke kd kf kg) H → va_D A (mdW cI cZ h m1 m4 m5 m6 m7 m8 m9 m21 m22 m23 m24 m25 m26 m30 m31 m32 m33 m34 m35 pl nd lk st bo ti te nr ml nn nl du nO nT wm wb ik kt kl hh pg dl er ra gc (va_up ga v x) gt nw g tc tr tf tt kc kr ke kd kf kg) → va_S A H0 H locs → ∀ ls : Array Slot, lv_has ls 3 [(0, .ref h), (1, .int (iI (v : Int)))] → W pr l en rm_X4_tick s mi args below meth co H locs 0 0 Q (F0 mi 121 ls [.int (iI y), .int (iI (gt v)), .int (iI (v : Int)), .ref m9]) := by
                  intro y hy9 H locs hP hD hS ls hl
                  refine kx_iadd hx hb dX4_tick_121 ?_
                  refine kx_iast (k := v) (x := ((gt v) + y)) hx hb hK hP hD hS 7 rfl (by omega) (by omega) (by decide) dX4_tick_122 (fun H locs hP hD hS => ?_)
                  have hP : va_P D vwCl (mdW cI cZ h m1 m4 m5 m6 m7 m8 m9 m21 m22 m23 m24 m25 m26 m30 m31 m32 m33 m34 m35 pl nd lk st bo ti te nr ml nn nl du nO nT wm wb ik kt kl hh pg dl er ra gc (va_up ga v x) (va_up gt v ((gt v) + y)) nw g tc tr tf tt kc kr ke kd kf kg) H := hP
                  have hD : va_D A (mdW cI cZ h m1 m4 m5 m6 m7 m8 m9 m21 m22 m23 m24 m25 m26 m30 m31 m32 m33 m34 m35 pl nd lk st bo ti te nr ml nn nl du nO nT wm wb ik kt kl hh pg dl er ra gc (va_up ga v x) (va_up gt v ((gt v) + y)) nw g tc tr tf tt kc kr ke kd kf kg) := hD
                  refine kx_const (z := 3) hx hb dX4_tick_123 rfl ?_
                  refine lv_istore_n (lv' := [(2, .int (iI 3)), (0, .ref h), (1, .int (iI (v : Int)))]) hx hb dX4_tick_124 rfl hl (by decide) rfl (fun ls hl => ?_)
                  refine lv_iload_n hx hb dX4_tick_125 rfl (lv_at hl 0 rfl) ?_
                  refine kx_if_le (tgt := 157) hx hb (by omega) dX4_tick_126 (by decide) (fun h126 => ?_) (fun h126 => ?_)
                  · skip
                    exfalso; omega
                  · skip
                    refine lv_aload_n hx hb dX4_tick_129 rfl (lv_at hl 1 rfl) ?_
                    refine va_get (D := D) (ci := 4) (v := .ref m7) (C := RX4) (T := TX4) (N := 39) hx hb hts iX4 hown hK.1 hP 0 rfl rfl 7 (by decide) (hts (.fieldLink RX4 22 "CloseClocksModel" "clockAt" "[I") (by decide +kernel)) (fun _ h9 => h9) rfl dX4_tick_130 ?_
                    refine kx_const (z := 4) hx hb dX4_tick_133 rfl ?_
                    refine lv_iload_n hx hb dX4_tick_134 rfl (lv_at hl 2 rfl) ?_
                    refine kx_imul hx hb dX4_tick_135 ?_
                    refine lv_iload_n hx hb dX4_tick_136 rfl (lv_at hl 0 rfl) ?_
                    refine kx_iadd hx hb dX4_tick_137 ?_
                    refine lv_aload_n hx hb dX4_tick_138 rfl (lv_at hl 1 rfl) ?_
                    refine va_get (D := D) (ci := 4) (v := .ref m7) (C := RX4) (T := TX4) (N := 39) hx hb hts iX4 hown hK.1 hP 0 rfl rfl 7 (by decide) (hts (.fieldLink RX4 22 "CloseClocksModel" "clockAt" "[I") (by decide +kernel)) (fun _ h9 => h9) rfl dX4_tick_139 ?_
                    refine kx_const (z := 4) hx hb dX4_tick_142 rfl ?_
                    refine lv_iload_n hx hb dX4_tick_143 rfl (lv_at hl 2 rfl) ?_
                    refine kx_imul hx hb dX4_tick_144 ?_
                    refine lv_iload_n hx hb dX4_tick_145 rfl (lv_at hl 0 rfl) ?_
                    refine kx_iadd hx hb dX4_tick_146 ?_
                    refine kx_const (z := 1) hx hb dX4_tick_147 rfl ?_
                    refine kx_isub hx hb dX4_tick_148 ?_
                    refine kx_iald (k := ((4 * v) + 2)) hx hb hK hP 5 rfl (by omega) (by omega) (by decide) dX4_tick_149 ?_
                    refine kx_iast (k := ((4 * v) + 3)) (x := (gc ((4 * v) + 2))) hx hb hK hP hD hS 5 rfl (by omega) (by omega) (by decide) dX4_tick_150 (fun H locs hP hD hS => ?_)
                    have hP : va_P D vwCl (mdW cI cZ h m1 m4 m5 m6 m7 m8 m9 m21 m22 m23 m24 m25 m26 m30 m31 m32 m33 m34 m35 pl nd lk st bo ti te nr ml nn nl du nO nT wm wb ik kt kl hh pg dl er ra (va_up gc ((4 * v) + 3) (gc ((4 * v) + 2))) (va_up ga v x) (va_up gt v ((gt v) + y)) nw g tc tr tf tt kc kr ke kd kf kg) H := hP
                    have hD : va_D A (mdW cI cZ h m1 m4 m5 m6 m7 m8 m9 m21 m22 m23 m24 m25 m26 m30 m31 m32 m33 m34 m35 pl nd lk st bo ti te nr ml nn nl du nO nT wm wb ik kt kl hh pg dl er ra (va_up gc ((4 * v) + 3) (gc ((4 * v) + 2))) (va_up ga v x) (va_up gt v ((gt v) + y)) nw g tc tr tf tt kc kr ke kd kf kg) := hD
                    refine kx_iinc (z := 2) (lv' := [(2, .int (iI 2)), (0, .ref h), (1, .int (iI (v : Int)))]) hx hb dX4_tick_151 hl (k0 := 0) rfl (by omega) (by decide) rfl (fun ls hl => ?_)
                    refine lv_goto (tgt := 125) hx hb dX4_tick_154 (by decide) ?_
                    refine lv_iload_n hx hb dX4_tick_125 rfl (lv_at hl 0 rfl) ?_
                    refine kx_if_le (tgt := 157) hx hb (by omega) dX4_tick_126 (by decide) (fun h126 => ?_) (fun h126 => ?_)
                    · skip
                      exfalso; omega
                    · skip
                      refine lv_aload_n hx hb dX4_tick_129 rfl (lv_at hl 1 rfl) ?_
                      refine va_get (D := D) (ci := 4) (v := .ref m7) (C := RX4) (T := TX4) (N := 39) hx hb hts iX4 hown hK.1 hP 0 rfl rfl 7 (by decide) (hts (.fieldLink RX4 22 "CloseClocksModel" "clockAt" "[I") (by decide +kernel)) (fun _ h9 => h9) rfl dX4_tick_130 ?_
                      refine kx_const (z := 4) hx hb dX4_tick_133 rfl ?_
                      refine lv_iload_n hx hb dX4_tick_134 rfl (lv_at hl 2 rfl) ?_
                      refine kx_imul hx hb dX4_tick_135 ?_
                      refine lv_iload_n hx hb dX4_tick_136 rfl (lv_at hl 0 rfl) ?_
                      refine kx_iadd hx hb dX4_tick_137 ?_
                      refine lv_aload_n hx hb dX4_tick_138 rfl (lv_at hl 1 rfl) ?_
                      refine va_get (D := D) (ci := 4) (v := .ref m7) (C := RX4) (T := TX4) (N := 39) hx hb hts iX4 hown hK.1 hP 0 rfl rfl 7 (by decide) (hts (.fieldLink RX4 22 "CloseClocksModel" "clockAt" "[I") (by decide +kernel)) (fun _ h9 => h9) rfl dX4_tick_139 ?_
                      refine kx_const (z := 4) hx hb dX4_tick_142 rfl ?_
                      refine lv_iload_n hx hb dX4_tick_143 rfl (lv_at hl 2 rfl) ?_
                      refine kx_imul hx hb dX4_tick_144 ?_
                      refine lv_iload_n hx hb dX4_tick_145 rfl (lv_at hl 0 rfl) ?_
                      refine kx_iadd hx hb dX4_tick_146 ?_
                      refine kx_const (z := 1) hx hb dX4_tick_147 rfl ?_
                      refine kx_isub hx hb dX4_tick_148 ?_
                      refine kx_iald (k := ((4 * v) + 1)) hx hb hK hP 5 rfl (by omega) (by omega) (by decide) dX4_tick_149 ?_
                      refine kx_iast (k := ((4 * v) + 2)) (x := ((va_up gc ((4 * v) + 3) (gc ((4 * v) + 2))) ((4 * v) + 1))) hx hb hK hP hD hS 5 rfl (by omega) (by omega) (by decide) dX4_tick_150 (fun H locs hP hD hS => ?_)
                      have hP : va_P D vwCl (mdW cI cZ h m1 m4 m5 m6 m7 m8 m9 m21 m22 m23 m24 m25 m26 m30 m31 m32 m33 m34 m35 pl nd lk st bo ti te nr ml nn nl du nO nT wm wb ik kt kl hh pg dl er ra (va_up (va_up gc ((4 * v) + 3) (gc ((4 * v) + 2))) ((4 * v) + 2) ((va_up gc ((4 * v) + 3) (gc ((4 * v) + 2))) ((4 * v) + 1))) (va_up ga v x) (va_up gt v ((gt v) + y)) nw g tc tr tf tt kc kr ke kd kf kg) H := hP
                      have hD : va_D A (mdW cI cZ h m1 m4 m5 m6 m7 m8 m9 m21 m22 m23 m24 m25 m26 m30 m31 m32 m33 m34 m35 pl nd lk st bo ti te nr ml nn nl du nO nT wm wb ik kt kl hh pg dl er ra (va_up (va_up gc ((4 * v) + 3) (gc ((4 * v) + 2))) ((4 * v) + 2) ((va_up gc ((4 * v) + 3) (gc ((4 * v) + 2))) ((4 * v) + 1))) (va_up ga v x) (va_up gt v ((gt v) + y)) nw g tc tr tf tt kc kr ke kd kf kg) := hD
                      refine kx_iinc (z := 1) (lv' := [(2, .int (iI 1)), (0, .ref h), (1, .int (iI (v : Int)))]) hx hb dX4_tick_151 hl (k0 := 0) rfl (by omega) (by decide) rfl (fun ls hl => ?_)
                      refine lv_goto (tgt := 125) hx hb dX4_tick_154 (by decide) ?_
                      refine lv_iload_n hx hb dX4_tick_125 rfl (lv_at hl 0 rfl) ?_
                      refine kx_if_le (tgt := 157) hx hb (by omega) dX4_tick_126 (by decide) (fun h126 => ?_) (fun h126 => ?_)
                      · skip
                        exfalso; omega
                      · skip
                        refine lv_aload_n hx hb dX4_tick_129 rfl (lv_at hl 1 rfl) ?_
                        refine va_get (D := D) (ci := 4) (v := .ref m7) (C := RX4) (T := TX4) (N := 39) hx hb hts iX4 hown hK.1 hP 0 rfl rfl 7 (by decide) (hts (.fieldLink RX4 22 "CloseClocksModel" "clockAt" "[I") (by decide +kernel)) (fun _ h9 => h9) rfl dX4_tick_130 ?_
                        refine kx_const (z := 4) hx hb dX4_tick_133 rfl ?_
                        refine lv_iload_n hx hb dX4_tick_134 rfl (lv_at hl 2 rfl) ?_
                        refine kx_imul hx hb dX4_tick_135 ?_
                        refine lv_iload_n hx hb dX4_tick_136 rfl (lv_at hl 0 rfl) ?_
                        refine kx_iadd hx hb dX4_tick_137 ?_
                        refine lv_aload_n hx hb dX4_tick_138 rfl (lv_at hl 1 rfl) ?_
                        refine va_get (D := D) (ci := 4) (v := .ref m7) (C := RX4) (T := TX4) (N := 39) hx hb hts iX4 hown hK.1 hP 0 rfl rfl 7 (by decide) (hts (.fieldLink RX4 22 "CloseClocksModel" "clockAt" "[I") (by decide +kernel)) (fun _ h9 => h9) rfl dX4_tick_139 ?_
                        refine kx_const (z := 4) hx hb dX4_tick_142 rfl ?_
                        refine lv_iload_n hx hb dX4_tick_143 rfl (lv_at hl 2 rfl) ?_
                        refine kx_imul hx hb dX4_tick_144 ?_
                        refine lv_iload_n hx hb dX4_tick_145 rfl (lv_at hl 0 rfl) ?_
                        refine kx_iadd hx hb dX4_tick_146 ?_
                        refine kx_const (z := 1) hx hb dX4_tick_147 rfl ?_
                        refine kx_isub hx hb dX4_tick_148 ?_
                        refine kx_iald (k := (4 * v)) hx hb hK hP 5 rfl (by omega) (by omega) (by decide) dX4_tick_149 ?_
                        refine kx_iast (k := ((4 * v) + 1)) (x := ((va_up (va_up gc ((4 * v) + 3) (gc ((4 * v) + 2))) ((4 * v) + 2) ((va_up gc ((4 * v) + 3) (gc ((4 * v) + 2))) ((4 * v) + 1))) (4 * v))) hx hb hK hP hD hS 5 rfl (by omega) (by omega) (by decide) dX4_tick_150 (fun H locs hP hD hS => ?_)
                        have hP : va_P D vwCl (mdW cI cZ h m1 m4 m5 m6 m7 m8 m9 m21 m22 m23 m24 m25 m26 m30 m31 m32 m33 m34 m35 pl nd lk st bo ti te nr ml nn nl du nO nT wm wb ik kt kl hh pg dl er ra (va_up (va_up (va_up gc ((4 * v) + 3) (gc ((4 * v) + 2))) ((4 * v) + 2) ((va_up gc ((4 * v) + 3) (gc ((4 * v) + 2))) ((4 * v) + 1))) ((4 * v) + 1) ((va_up (va_up gc ((4 * v) + 3) (gc ((4 * v) + 2))) ((4 * v) + 2) ((va_up gc ((4 * v) + 3) (gc ((4 * v) + 2))) ((4 * v) + 1))) (4 * v))) (va_up ga v x) (va_up gt v ((gt v) + y)) nw g tc tr tf tt kc kr ke kd kf kg) H := hP
                        have hD : va_D A (mdW cI cZ h m1 m4 m5 m6 m7 m8 m9 m21 m22 m23 m24 m25 m26 m30 m31 m32 m33 m34 m35 pl nd lk st bo ti te nr ml nn nl du nO nT wm wb ik kt kl hh pg dl er ra (va_up (va_up (va_up gc ((4 * v) + 3) (gc ((4 * v) + 2))) ((4 * v) + 2) ((va_up gc ((4 * v) + 3) (gc ((4 * v) + 2))) ((4 * v) + 1))) ((4 * v) + 1) ((va_up (va_up gc ((4 * v) + 3) (gc ((4 * v) + 2))) ((4 * v) + 2) ((va_up gc ((4 * v) + 3) (gc ((4 * v) + 2))) ((4 * v) + 1))) (4 * v))) (va_up ga v x) (va_up gt v ((gt v) + y)) nw g tc tr tf tt kc kr ke kd kf kg) := hD
                        refine kx_iinc (z := 0) (lv' := [(2, .int (iI 0)), (0, .ref h), (1, .int (iI (v : Int)))]) hx hb dX4_tick_151 hl (k0 := 0) rfl (by omega) (by decide) rfl (fun ls hl => ?_)
                        refine lv_goto (tgt := 125) hx hb dX4_tick_154 (by decide) ?_
                        refine lv_iload_n hx hb dX4_tick_125 rfl (lv_at hl 0 rfl) ?_
                        refine kx_if_le (tgt := 157) hx hb (by omega) dX4_tick_126 (by decide) (fun h126 => ?_) (fun h126 => ?_)
                        · skip
                          have hP : va_P D vwCl (mdW cI cZ h m1 m4 m5 m6 m7 m8 m9 m21 m22 m23 m24 m25 m26 m30 m31 m32 m33 m34 m35 pl nd lk st bo ti te nr ml nn nl du nO nT wm wb ik kt kl hh pg dl er ra (sh4 gc v) (va_up ga v x) (va_up gt v ((gt v) + y)) nw g tc tr tf tt kc kr ke kd kf kg) H := by have := hP; simp only [up_n _ _ _ (show 4 * v + 1 ≠ 4 * v + 2 by omega), up_n _ _ _ (show 4 * v + 1 ≠ 4 * v + 3 by omega), up_n _ _ _ (show 4 * v ≠ 4 * v + 1 by omega), up_n _ _ _ (show 4 * v ≠ 4 * v + 2 by omega), up_n _ _ _ (show 4 * v ≠ 4 * v + 3 by omega), up_n _ _ _ (show 4 * v + 2 ≠ 4 * v + 3 by omega)] at this; exact this
                          have hD : va_D A (mdW cI cZ h m1 m4 m5 m6 m7 m8 m9 m21 m22 m23 m24 m25 m26 m30 m31 m32 m33 m34 m35 pl nd lk st bo ti te nr ml nn nl du nO nT wm wb ik kt kl hh pg dl er ra (sh4 gc v) (va_up ga v x) (va_up gt v ((gt v) + y)) nw g tc tr tf tt kc kr ke kd kf kg) := by have := hD; simp only [up_n _ _ _ (show 4 * v + 1 ≠ 4 * v + 2 by omega), up_n _ _ _ (show 4 * v + 1 ≠ 4 * v + 3 by omega), up_n _ _ _ (show 4 * v ≠ 4 * v + 1 by omega), up_n _ _ _ (show 4 * v ≠ 4 * v + 2 by omega), up_n _ _ _ (show 4 * v ≠ 4 * v + 3 by omega), up_n _ _ _ (show 4 * v + 2 ≠ 4 * v + 3 by omega)] at this; exact this
                          refine lv_aload_n hx hb dX4_tick_157 rfl (lv_at hl 1 rfl) ?_
                          refine va_get (D := D) (ci := 4) (v := .ref m7) (C := RX4) (T := TX4) (N := 39) hx hb hts iX4 hown hK.1 hP 0 rfl rfl 7 (by decide) (hts (.fieldLink RX4 22 "CloseClocksModel" "clockAt" "[I") (by decide +kernel)) (fun _ h9 => h9) rfl dX4_tick_158 ?_
                          refine kx_const (z := 4) hx hb dX4_tick_161 rfl ?_
                          refine lv_iload_n hx hb dX4_tick_162 rfl (lv_at hl 2 rfl) ?_
                          refine kx_imul hx hb dX4_tick_163 ?_
                          refine lv_dup2_11 hx hb dX4_tick_164 rfl rfl ?_
                          refine kx_iald (k := (4 * v)) hx hb hK hP 5 rfl (by omega) (by omega) (by decide) dX4_tick_165 ?_
                          have J189_3 : ∀ (b9 : Int), (b9 = x * bo) → ∀ (H : Heap) (locs : List Loc), va_P D vwCl (mdW cI cZ h m1 m4 m5 m6 m7 m8 m9 m21 m22 m23 m24 m25 m26 m30 m31 m32 m33 m34 m35 pl nd lk st bo ti te nr ml nn nl du nO nT wm wb ik kt kl hh pg dl er ra (sh4 gc v) (va_up ga v x) (va_up gt v ((gt v) + y)) nw g tc tr tf tt kc kr ke kd kf kg) H → va_D A (mdW cI cZ h m1 m4 m5 m6 m7 m8 m9 m21 m22 m23 m24 m25 m26 m30 m31 m32 m33 m34 m35 pl nd lk st bo ti te nr ml nn nl du nO nT wm wb ik kt kl hh pg dl er ra (sh4 gc v) (va_up ga v x) (va_up gt v ((gt v) + y)) nw g tc tr tf tt kc kr ke kd kf kg) → va_S A H0 H locs → ∀ ls : Array Slot, lv_has ls 3 [(0, .ref h), (1, .int (iI (v : Int))), (2, .int (iI 0))] → W pr l en rm_X4_tick s mi args below meth co H locs 0 0 Q (F0 mi 189 ls [.int (iI b9), .int (iI (ra v)), .int (iI (gc (4 * v))), .int (iI (4 * (v : Int))), .ref m7]) := by
                            intro b9 hb9 H locs hP hD hS ls hl
                            refine kx_iadd hx hb dX4_tick_189 ?_
                            refine kx_iadd hx hb dX4_tick_190 ?_
                            refine kx_iast (k := (4 * v)) (x := ((gc (4 * v)) + ((ra v) + b9))) hx hb hK hP hD hS 5 rfl (by omega) (by omega) (by decide) dX4_tick_191 (fun H locs hP hD hS => ?_)
                            have hP : va_P D vwCl (mdW cI cZ h m1 m4 m5 m6 m7 m8 m9 m21 m22 m23 m24 m25 m26 m30 m31 m32 m33 m34 m35 pl nd lk st bo ti te nr ml nn nl du nO nT wm wb ik kt kl hh pg dl er ra (va_up (sh4 gc v) (4 * v) ((gc (4 * v)) + ((ra v) + b9))) (va_up ga v x) (va_up gt v ((gt v) + y)) nw g tc tr tf tt kc kr ke kd kf kg) H := hP
                            have hD : va_D A (mdW cI cZ h m1 m4 m5 m6 m7 m8 m9 m21 m22 m23 m24 m25 m26 m30 m31 m32 m33 m34 m35 pl nd lk st bo ti te nr ml nn nl du nO nT wm wb ik kt kl hh pg dl er ra (va_up (sh4 gc v) (4 * v) ((gc (4 * v)) + ((ra v) + b9))) (va_up ga v x) (va_up gt v ((gt v) + y)) nw g tc tr tf tt kc kr ke kd kf kg) := hD
                            refine kx_iinc (z := ((v + 1 : Nat) : Int)) (lv' := [(1, .int (iI ((v + 1 : Nat) : Int))), (0, .ref h), (2, .int (iI 0))]) hx hb dX4_tick_192 hl (k0 := 1) rfl (by omega) (by decide) rfl (fun ls hl => ?_)
                            refine lv_goto (tgt := 53) hx hb dX4_tick_195 (by decide) ?_
                            exact ih53 (v + 1) (va_up ga v x) (va_up gt v ((gt v) + y)) (va_up (sh4 gc v) (4 * v) ((gc (4 * v)) + ((ra v) + b9))) (by first | assumption | omega) (up_mix hga hx9) (up_mix hgt (by rw [hy9, mix_at hgt (by omega)])) (sh4_mix hgc (by omega) (by rw [hgv4, hb9, mCk, if_pos (by omega), show 4 * v / 4 = v by omega, hx9]) (fun j h1 h2 => by rw [mCk, if_neg (by omega)])) (by omega) H locs hP hD hS ls (lv_sub hl [1, 0] rfl)
                          refine kx_top (b := (gc (4 * v))) (sh4_at _ _) ?_
                          refine lv_aload_n hx hb dX4_tick_166 rfl (lv_at hl 1 rfl) ?_
                          refine va_get (D := D) (ci := 4) (v := .ref m6) (C := RX4) (T := TX4) (N := 39) hx hb hts iX4 hown hK.1 hP 0 rfl rfl 6 (by decide) (hts (.fieldLink RX4 19 "CloseClocksModel" "rateOf" "[I") (by decide +kernel)) (fun _ h9 => h9) rfl dX4_tick_167 ?_
                          refine lv_iload_n hx hb dX4_tick_170 rfl (lv_at hl 2 rfl) ?_
                          refine kx_iald (k := v) hx hb hK hP 4 rfl (by omega) (by omega) (by decide) dX4_tick_171 ?_
                          refine lv_aload_n hx hb dX4_tick_172 rfl (lv_at hl 1 rfl) ?_
                          refine va_get (D := D) (ci := 4) (v := .ref m8) (C := RX4) (T := TX4) (N := 39) hx hb hts iX4 hown hK.1 hP 0 rfl rfl 8 (by decide) (hts (.fieldLink RX4 25 "CloseClocksModel" "isFast" "[Z") (by decide +kernel)) (fun _ h9 => h9) rfl dX4_tick_173 ?_
                          refine lv_iload_n hx hb dX4_tick_176 rfl (lv_at hl 2 rfl) ?_
                          refine kx_zald (k := v) hx hb hK hP 6 rfl (by omega) (by omega) (by decide) dX4_tick_177 ?_
                          refine kx_top (b := x) (up_s _ _ _) ?_
                          refine kx_if_eq (tgt := 188) hx hb (by omega) dX4_tick_178 (by decide) (fun h178 => ?_) (fun h178 => ?_)
                          · skip
                            refine kx_const (z := 0) hx hb dX4_tick_188 rfl ?_
                            exact J189_3 0 (by rcases h01 with q | q <;> (first | omega | (rw [q]; omega))) H locs hP hD hS ls (lv_sub hl [1, 2, 0] rfl)
                          · skip
                            refine lv_aload_n hx hb dX4_tick_181 rfl (lv_at hl 1 rfl) ?_
                            refine va_get (D := D) (ci := 4) (v := .int (iI bo)) (C := RX4) (T := TX4) (N := 39) hx hb hts iX4 hown hK.1 hP 0 rfl rfl 11 (by decide) (hts (.fieldLink RX4 36 "CloseClocksModel" "boost" "I") (by decide +kernel)) (fun _ h9 => h9) rfl dX4_tick_182 ?_
                            refine lv_goto (tgt := 189) hx hb dX4_tick_185 (by decide) ?_
                            exact J189_3 bo (by rcases h01 with q | q <;> (first | omega | (rw [q]; omega))) H locs hP hD hS ls (lv_sub hl [1, 2, 0] rfl)
                        · skip
                          exfalso; omega
                refine lv_aload_n hx hb dX4_tick_100 rfl (lv_at hl 0 rfl) ?_
                refine va_get (D := D) (ci := 4) (v := .ref m9) (C := RX4) (T := TX4) (N := 39) hx hb hts iX4 hown hK.1 hP 0 rfl rfl 9 (by decide) (hts (.fieldLink RX4 29 "CloseClocksModel" "fastTicks" "[I") (by decide +kernel)) (fun _ h9 => h9) rfl dX4_tick_101 ?_
                refine lv_iload_n hx hb dX4_tick_104 rfl (lv_at hl 1 rfl) ?_
                refine lv_dup2_11 hx hb dX4_tick_105 rfl rfl ?_
                refine kx_iald (k := v) hx hb hK hP 7 rfl (by omega) (by omega) (by decide) dX4_tick_106 ?_
                refine lv_aload_n hx hb dX4_tick_107 rfl (lv_at hl 0 rfl) ?_
                refine va_get (D := D) (ci := 4) (v := .ref m8) (C := RX4) (T := TX4) (N := 39) hx hb hts iX4 hown hK.1 hP 0 rfl rfl 8 (by decide) (hts (.fieldLink RX4 25 "CloseClocksModel" "isFast" "[Z") (by decide +kernel)) (fun _ h9 => h9) rfl dX4_tick_108 ?_
                refine lv_iload_n hx hb dX4_tick_111 rfl (lv_at hl 1 rfl) ?_
                refine kx_zald (k := v) hx hb hK hP 6 rfl (by omega) (by omega) (by decide) dX4_tick_112 ?_
                refine kx_top (b := x) (up_s _ _ _) ?_
                refine kx_if_eq (tgt := 120) hx hb (by omega) dX4_tick_113 (by decide) (fun h113 => ?_) (fun h113 => ?_)
                · skip
                  refine kx_const (z := 0) hx hb dX4_tick_120 rfl ?_
                  exact J121_2 0 (by first | assumption | omega) H locs hP hD hS ls (lv_sub hl [0, 1] rfl)
                · skip
                  refine kx_const (z := 1) hx hb dX4_tick_116 rfl ?_
                  refine lv_goto (tgt := 121) hx hb dX4_tick_117 (by decide) ?_
                  exact J121_2 1 (by first | assumption | omega) H locs hP hD hS ls (lv_sub hl [0, 1] rfl)
              refine lv_aload_n hx hb dX4_tick_61 rfl (lv_at hl 0 rfl) ?_
              refine va_get (D := D) (ci := 4) (v := .ref m8) (C := RX4) (T := TX4) (N := 39) hx hb hts iX4 hown hK.1 hP 0 rfl rfl 8 (by decide) (hts (.fieldLink RX4 25 "CloseClocksModel" "isFast" "[Z") (by decide +kernel)) (fun _ h9 => h9) rfl dX4_tick_62 ?_
              refine lv_iload_n hx hb dX4_tick_65 rfl (lv_at hl 1 rfl) ?_
              refine lv_aload_n hx hb dX4_tick_66 rfl (lv_at hl 0 rfl) ?_
              refine va_get (D := D) (ci := 4) (v := .ref m22) (C := RX4) (T := TX4) (N := 39) hx hb hts iX4 hown hK.1 hP 0 rfl rfl 22 (by decide) (hts (.fieldLink RX4 42 "CloseClocksModel" "turnOf" "[I") (by decide +kernel)) (fun _ h9 => h9) rfl dX4_tick_67 ?_
              refine lv_iload_n hx hb dX4_tick_70 rfl (lv_at hl 1 rfl) ?_
              refine kx_iald (k := v) hx hb hK hP 9 rfl (by omega) (by omega) (by decide) dX4_tick_71 ?_
              refine kx_const (z := 1) hx hb dX4_tick_72 rfl ?_
              refine kx_icmp_eq (tgt := 94) hx hb (by omega) (by omega) dX4_tick_73 (by decide) (fun h73 => ?_) (fun h73 => ?_)
              · skip
                refine kx_const (z := 1) hx hb dX4_tick_94 rfl ?_
                refine lv_goto (tgt := 99) hx hb dX4_tick_95 (by decide) ?_
                exact J99_1 1 (by rw [mFa]; first | (rw [if_pos (by omega)]) | (rw [if_neg (by omega)])) (by first | assumption | omega) H locs hP hD hS ls (lv_sub hl [0, 1] rfl)
              · skip
                refine lv_aload_n hx hb dX4_tick_76 rfl (lv_at hl 0 rfl) ?_
                refine va_get (D := D) (ci := 4) (v := .ref m22) (C := RX4) (T := TX4) (N := 39) hx hb hts iX4 hown hK.1 hP 0 rfl rfl 22 (by decide) (hts (.fieldLink RX4 42 "CloseClocksModel" "turnOf" "[I") (by decide +kernel)) (fun _ h9 => h9) rfl dX4_tick_77 ?_
                refine lv_iload_n hx hb dX4_tick_80 rfl (lv_at hl 1 rfl) ?_
                refine kx_iald (k := v) hx hb hK hP 9 rfl (by omega) (by omega) (by decide) dX4_tick_81 ?_
                refine kx_if_ne (tgt := 98) hx hb (by omega) dX4_tick_82 (by decide) (fun h82 => ?_) (fun h82 => ?_)
                · skip
                  refine kx_const (z := 0) hx hb dX4_tick_98 rfl ?_
                  exact J99_1 0 (by rw [mFa]; first | (rw [if_pos (by omega)]) | (rw [if_neg (by omega)])) (by first | assumption | omega) H locs hP hD hS ls (lv_sub hl [0, 1] rfl)
                · skip
                  refine lv_aload_n hx hb dX4_tick_85 rfl (lv_at hl 0 rfl) ?_
                  refine va_get (D := D) (ci := 4) (v := .ref m8) (C := RX4) (T := TX4) (N := 39) hx hb hts iX4 hown hK.1 hP 0 rfl rfl 8 (by decide) (hts (.fieldLink RX4 25 "CloseClocksModel" "isFast" "[Z") (by decide +kernel)) (fun _ h9 => h9) rfl dX4_tick_86 ?_
                  refine lv_iload_n hx hb dX4_tick_89 rfl (lv_at hl 1 rfl) ?_
                  refine kx_zald (k := v) hx hb hK hP 6 rfl (by omega) (by omega) (by decide) dX4_tick_90 ?_
                  refine kx_if_eq (tgt := 98) hx hb (by omega) dX4_tick_91 (by decide) (fun h91 => ?_) (fun h91 => ?_)
                  · skip
                    refine kx_const (z := 0) hx hb dX4_tick_98 rfl ?_
                    exact J99_1 0 (by rw [mFa]; first | (rw [if_pos (by omega)]) | (rw [if_neg (by omega)])) (by first | assumption | omega) H locs hP hD hS ls (lv_sub hl [0, 1] rfl)
                  · skip
                    refine kx_const (z := 1) hx hb dX4_tick_94 rfl ?_
                    refine lv_goto (tgt := 99) hx hb dX4_tick_95 (by decide) ?_
                    exact J99_1 1 (by rw [mFa]; first | (rw [if_pos (by omega)]) | (rw [if_neg (by omega)])) (by first | assumption | omega) H locs hP hD hS ls (lv_sub hl [0, 1] rfl)
        exact L53 (nd.toNat - 0 + 1) 0 fa ft ck (by first | assumption | omega) (mix_0) (mix_0) (fun k _ => by rw [if_neg (by omega)]) (Nat.lt_succ_self _) H locs hP hD hS ls (lv_sub hl [1, 0] rfl)
      · skip
        have J44_4 : ∀ (x : Int), (x = (mTu ck dl er nd st) v) → ∀ (H : Heap) (locs : List Loc), va_P D vwCl (mdW cI cZ h m1 m4 m5 m6 m7 m8 m9 m21 m22 m23 m24 m25 m26 m30 m31 m32 m33 m34 m35 pl nd lk st bo ti te nr ml nn nl du nO nT wm wb ik kt kl hh pg dl er ra ck fa ft nw g tc tr tf tt kc kr ke kd kf kg) H → va_D A (mdW cI cZ h m1 m4 m5 m6 m7 m8 m9 m21 m22 m23 m24 m25 m26 m30 m31 m32 m33 m34 m35 pl nd lk st bo ti te nr ml nn nl du nO nT wm wb ik kt kl hh pg dl er ra ck fa ft nw g tc tr tf tt kc kr ke kd kf kg) → va_S A H0 H locs → ∀ ls : Array Slot, lv_has ls 3 [(0, .ref h), (1, .int (iI (v : Int)))] → W pr l en rm_X4_tick s mi args below meth co H locs 0 0 Q (F0 mi 44 ls [.int (iI x), .int (iI (v : Int)), .ref m22]) := by
          intro x hx9 H locs hP hD hS ls hl
          refine kx_iast (k := v) (x := x) hx hb hK hP hD hS 9 rfl (by omega) (by omega) (by decide) dX4_tick_44 (fun H locs hP hD hS => ?_)
          have hP : va_P D vwCl (mdW cI cZ h m1 m4 m5 m6 m7 m8 m9 m21 m22 m23 m24 m25 m26 m30 m31 m32 m33 m34 m35 pl nd lk st bo ti te nr ml nn nl du nO nT wm wb ik kt kl hh pg dl er ra ck fa ft nw (va_up g v x) tc tr tf tt kc kr ke kd kf kg) H := hP
          have hD : va_D A (mdW cI cZ h m1 m4 m5 m6 m7 m8 m9 m21 m22 m23 m24 m25 m26 m30 m31 m32 m33 m34 m35 pl nd lk st bo ti te nr ml nn nl du nO nT wm wb ik kt kl hh pg dl er ra ck fa ft nw (va_up g v x) tc tr tf tt kc kr ke kd kf kg) := hD
          refine kx_iinc (z := ((v + 1 : Nat) : Int)) (lv' := [(1, .int (iI ((v + 1 : Nat) : Int))), (0, .ref h)]) hx hb dX4_tick_45 hl (k0 := 1) rfl (by omega) (by decide) rfl (fun ls hl => ?_)
          refine lv_goto (tgt := 2) hx hb dX4_tick_48 (by decide) ?_
          exact ih2 (v + 1) (va_up g v x) (by first | assumption | omega) (up_lt hg hx9) (by omega) H locs hP hD hS ls (lv_sub hl [1, 0] rfl)
        refine lv_aload_n hx hb dX4_tick_10 rfl (lv_at hl 0 rfl) ?_
        refine va_get (D := D) (ci := 4) (v := .ref m22) (C := RX4) (T := TX4) (N := 39) hx hb hts iX4 hown hK.1 hP 0 rfl rfl 22 (by decide) (hts (.fieldLink RX4 42 "CloseClocksModel" "turnOf" "[I") (by decide +kernel)) (fun _ h9 => h9) rfl dX4_tick_11 ?_
        refine lv_iload_n hx hb dX4_tick_14 rfl (lv_at hl 1 rfl) ?_
        refine lv_aload_n hx hb dX4_tick_15 rfl (lv_at hl 0 rfl) ?_
        refine lv_iload_n hx hb dX4_tick_16 rfl (lv_at hl 1 rfl) ?_
        have hub := mUp_bd (st := st) (ah := (mOf ck dl er nd 1 v nd.toNat)) (be := (mOf ck dl er nd 0 v nd.toNat)) hst (by have := mOf_rng (a := 0) (v := v) hck her hdl hnd nd.toNat; omega)
        have hdb := mDn_bd (st := st) (ah := (mOf ck dl er nd 1 v nd.toNat)) (be := (mOf ck dl er nd 0 v nd.toNat)) hst (by have := mOf_rng (a := 1) (v := v) hck her hdl hnd nd.toNat; omega)
        refine kx_cV (As := [.int (iI (v : Int))]) (rest := [.int (iI (v : Int)), .ref m22]) (st1 := [.int (iI (mUp st (mOf ck dl er nd 1 v nd.toNat) (mOf ck dl er nd 0 v nd.toNat))), .int (iI (v : Int)), .ref m22]) (q0 := 0) (ci := 4) ⟨hx, hb, hml, hown, hts⟩ (c_X4_upOf l D cI cZ h m1 m4 m5 m6 m7 m8 m9 m21 m22 m23 m24 m25 m26 m30 m31 m32 m33 m34 m35 pl nd lk st bo ti te nr ml nn nl du nO nT wm wb ik kt kl hh pg dl er ra ck fa ft nw g tc tr tf tt kc kr ke kd kf kg v (by first | assumption | omega) (by first | assumption | omega) (by first | assumption | omega) (by first | assumption | omega) (by first | assumption | omega) (by first | assumption | omega)) (cwV 1 hts gX4_tick_X4_upOf rfl rfl rfl (by decide +kernel) ⟨Nat.le_of_ble_eq_true rfl, Nat.le_of_ble_eq_true rfl⟩) hK hP rfl rfl rfl hl.1 rfl (Nat.le_of_ble_eq_true rfl) dX4_tick_17 ⟨Nat.zero_le _, Nat.zero_le _⟩ rfl ?_
        refine kx_ldc (z := -100000001) hx hb hown (hts (.constant RX4 96 (-100000001)) (by decide +kernel)) dX4_tick_20 (by decide) ?_
        refine kx_icmp_eq (tgt := 29) hx hb (by omega) (by omega) dX4_tick_22 (by decide) (fun h22 => ?_) (fun h22 => ?_)
        · skip
          refine lv_aload_n hx hb dX4_tick_29 rfl (lv_at hl 0 rfl) ?_
          refine lv_iload_n hx hb dX4_tick_30 rfl (lv_at hl 1 rfl) ?_
          refine kx_cV (As := [.int (iI (v : Int))]) (rest := [.int (iI (v : Int)), .ref m22]) (st1 := [.int (iI (mDn st (mOf ck dl er nd 1 v nd.toNat) (mOf ck dl er nd 0 v nd.toNat))), .int (iI (v : Int)), .ref m22]) (q0 := 0) (ci := 4) ⟨hx, hb, hml, hown, hts⟩ (c_X4_downOf l D cI cZ h m1 m4 m5 m6 m7 m8 m9 m21 m22 m23 m24 m25 m26 m30 m31 m32 m33 m34 m35 pl nd lk st bo ti te nr ml nn nl du nO nT wm wb ik kt kl hh pg dl er ra ck fa ft nw g tc tr tf tt kc kr ke kd kf kg v (by first | assumption | omega) (by first | assumption | omega) (by first | assumption | omega) (by first | assumption | omega) (by first | assumption | omega) (by first | assumption | omega)) (cwV 1 hts gX4_tick_X4_downOf rfl rfl rfl (by decide +kernel) ⟨Nat.le_of_ble_eq_true rfl, Nat.le_of_ble_eq_true rfl⟩) hK hP rfl rfl rfl hl.1 rfl (Nat.le_of_ble_eq_true rfl) dX4_tick_31 ⟨Nat.zero_le _, Nat.zero_le _⟩ rfl ?_
          refine kx_ldc (z := -100000001) hx hb hown (hts (.constant RX4 96 (-100000001)) (by decide +kernel)) dX4_tick_34 (by decide) ?_
          refine kx_icmp_eq (tgt := 43) hx hb (by omega) (by omega) dX4_tick_36 (by decide) (fun h36 => ?_) (fun h36 => ?_)
          · skip
            refine kx_const (z := 0) hx hb dX4_tick_43 rfl ?_
            exact J44_4 0 (by rw [mTu]; first | (rw [if_pos h22]) | (rw [if_neg (by omega), if_pos h36]) | (rw [if_neg (by omega), if_neg (by omega)])) H locs hP hD hS ls (lv_sub hl [0, 1] rfl)
          · skip
            refine kx_const (z := -1) hx hb dX4_tick_39 rfl ?_
            refine lv_goto (tgt := 44) hx hb dX4_tick_40 (by decide) ?_
            exact J44_4 (-1) (by rw [mTu]; first | (rw [if_pos h22]) | (rw [if_neg (by omega), if_pos h36]) | (rw [if_neg (by omega), if_neg (by omega)])) H locs hP hD hS ls (lv_sub hl [0, 1] rfl)
        · skip
          refine kx_const (z := 1) hx hb dX4_tick_25 rfl ?_
          refine lv_goto (tgt := 44) hx hb dX4_tick_26 (by decide) ?_
          exact J44_4 1 (by rw [mTu]; first | (rw [if_pos h22]) | (rw [if_neg (by omega), if_pos h36]) | (rw [if_neg (by omega), if_neg (by omega)])) H locs hP hD hS ls (lv_sub hl [0, 1] rfl)
  exact L2 (nd.toNat - 0 + 1) 0 tu (by first | assumption | omega) (fun k hk => absurd hk (Nat.not_lt_zero k)) (Nat.lt_succ_self _) H locs hP hD hS ls (lv_sub hl [1, 0] rfl)
