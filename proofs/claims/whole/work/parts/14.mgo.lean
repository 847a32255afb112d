def rm_X4_setAside : Room := ({ frames := 0, cells := 0, slots := 0, locals := 0 } : Room)
set_option maxHeartbeats 4000000 in
set_option maxRecDepth 100000 in
theorem c_X4_setAside (l : Launch) (D : va_G) (cI cZ : ClassId) (h m1 m4 m5 m6 m7 m8 m9 m21 m22 m23 m24 m25 m26 m30 m31 m32 m33 m34 m35 : Nat) (pl nd lk st bo ti te nr ml nn nl du nO nT wm wb ik kt kl : Int) (hh : Int64) (pg dl er ra ck fa ft nw tu tc tr tf tt kc kr ke kd kf kg : Nat → Int)  (hfa : ∀ k : Nat, k < 6 → fa k = 0 ∨ fa k = 1) : kWR l yX4_setAside wsX4_setAside rm_X4_setAside D cI cZ [.ref h] (mdW cI cZ h m1 m4 m5 m6 m7 m8 m9 m21 m22 m23 m24 m25 m26 m30 m31 m32 m33 m34 m35 pl nd lk st bo ti te nr ml nn nl du nO nT wm wb ik kt kl hh pg dl er ra ck fa ft nw tu tc tr tf tt kc kr ke kd kf kg) (fun u : Unit => none) (fun u : Unit => True) (fun u : Unit => mdW cI cZ h m1 m4 m5 m6 m7 m8 m9 m21 m22 m23 m24 m25 m26 m30 m31 m32 m33 m34 m35 pl nd lk st bo ti te nr ml nn nl du nO nT wm wb ik kt kl hh pg dl er ra ck fa ft nw tu ck ra fa ft kc kr ke kd kf kg) 0 0 := by
  refine kx_WRv (cc := cX4_setAside) (maxL := 2) (by decide) rfl (Nat.le_of_ble_eq_true rfl) ?_
  intro pr en s mi args below meth co Q A hx hb hml hown hts hK hin hA hP hD hS hret ls hl
  have hown : s.vm.findClass RX4 = some mi.cls := hown
  have iX4 : ∀ w ∈ wsX40, w ∈ wsX4_setAside := by decide +kernel
  have hl : lv_has ls 2 [(0, .ref h)] := hl
  generalize hH0 : s.heap = H0 at hA hP hS hret ⊢
  obtain ⟨H, hH⟩ : ∃ H : Heap, H = H0 := ⟨_, rfl⟩
  obtain ⟨locs, hlocs⟩ : ∃ locs : List Loc, locs = [] := ⟨_, rfl⟩
  have hS : va_S A H0 H locs := by rw [hH, hlocs]; exact hS
  have hP : va_P D vwCl (mdW cI cZ h m1 m4 m5 m6 m7 m8 m9 m21 m22 m23 m24 m25 m26 m30 m31 m32 m33 m34 m35 pl nd lk st bo ti te nr ml nn nl du nO nT wm wb ik kt kl hh pg dl er ra ck fa ft nw tu tc tr tf tt kc kr ke kd kf kg) H := by rw [hH]; exact hP
  suffices hgo : W pr l en rm_X4_setAside s mi args below meth co H locs 0 0 Q (F0 mi 0 ls []) by rw [hH, hlocs] at hgo; exact hgo
  clear hH hlocs
  refine kx_const (z := 0) hx hb dX4_setAside_0 rfl ?_
  refine lv_istore_n (lv' := [(1, .int (iI 0)), (0, .ref h)]) hx hb dX4_setAside_1 rfl hl (by decide) rfl (fun ls hl => ?_)
  have L2 : ∀ (fu : Nat) (k : Nat) (gc : Nat → Int), (k ≤ 24) → (∀ j : Nat, j < k → gc j = ck j) → 24 - k < fu → ∀ (H : Heap) (locs : List Loc), va_P D vwCl (mdW cI cZ h m1 m4 m5 m6 m7 m8 m9 m21 m22 m23 m24 m25 m26 m30 m31 m32 m33 m34 m35 pl nd lk st bo ti te nr ml nn nl du nO nT wm wb ik kt kl hh pg dl er ra ck fa ft nw tu gc tr tf tt kc kr ke kd kf kg) H → va_D A (mdW cI cZ h m1 m4 m5 m6 m7 m8 m9 m21 m22 m23 m24 m25 m26 m30 m31 m32 m33 m34 m35 pl nd lk st bo ti te nr ml nn nl du nO nT wm wb ik kt kl hh pg dl er ra ck fa ft nw tu gc tr tf tt kc kr ke kd kf kg) → va_S A H0 H locs → ∀ ls : Array Slot, lv_has ls 2 [(0, .ref h), (1, .int (iI (k : Int)))] → W pr l en rm_X4_setAside s mi args below meth co H locs 0 0 Q (F0 mi 2 ls []) := by
    intro fu
    induction fu with
    | zero =>
      intro k gc hk hgc hfu
      exact absurd hfu (Nat.not_lt_zero _)
    | succ fu ih2 =>
      intro k gc hk hgc hfu H locs hP hD hS ls hl
      refine lv_iload_n hx hb dX4_setAside_2 rfl (lv_at hl 1 rfl) ?_
      refine kx_bipush (z := 24) hx hb dX4_setAside_3 (by decide) ?_
      refine kx_icmp_ge (tgt := 26) hx hb (by omega) (by omega) dX4_setAside_5 (by decide) (fun h5 => ?_) (fun h5 => ?_)
      · skip
        obtain ⟨hP, hD⟩ := kx_arr (g' := ck) hP hD 10 rfl (fun j hj => hgc j (by omega))
        have hP : va_P D vwCl (mdW cI cZ h m1 m4 m5 m6 m7 m8 m9 m21 m22 m23 m24 m25 m26 m30 m31 m32 m33 m34 m35 pl nd lk st bo ti te nr ml nn nl du nO nT wm wb ik kt kl hh pg dl er ra ck fa ft nw tu ck tr tf tt kc kr ke kd kf kg) H := hP
        have hD : va_D A (mdW cI cZ h m1 m4 m5 m6 m7 m8 m9 m21 m22 m23 m24 m25 m26 m30 m31 m32 m33 m34 m35 pl nd lk st bo ti te nr ml nn nl du nO nT wm wb ik kt kl hh pg dl er ra ck fa ft nw tu ck tr tf tt kc kr ke kd kf kg) := hD
        refine kx_const (z := 0) hx hb dX4_setAside_26 rfl ?_
        refine lv_istore_n (lv' := [(1, .int (iI 0)), (0, .ref h)]) hx hb dX4_setAside_27 rfl hl (by decide) rfl (fun ls hl => ?_)
        have L28 : ∀ (fu : Nat) (k : Nat) (gr : Nat → Int) (gf : Nat → Int) (gg : Nat → Int), (k ≤ 6) → (∀ j : Nat, j < k → gr j = ra j) → (∀ j : Nat, j < k → gf j = fa j) → (∀ j : Nat, j < k → gg j = ft j) → 6 - k < fu → ∀ (H : Heap) (locs : List Loc), va_P D vwCl (mdW cI cZ h m1 m4 m5 m6 m7 m8 m9 m21 m22 m23 m24 m25 m26 m30 m31 m32 m33 m34 m35 pl nd lk st bo ti te nr ml nn nl du nO nT wm wb ik kt kl hh pg dl er ra ck fa ft nw tu ck gr gf gg kc kr ke kd kf kg) H → va_D A (mdW cI cZ h m1 m4 m5 m6 m7 m8 m9 m21 m22 m23 m24 m25 m26 m30 m31 m32 m33 m34 m35 pl nd lk st bo ti te nr ml nn nl du nO nT wm wb ik kt kl hh pg dl er ra ck fa ft nw tu ck gr gf gg kc kr ke kd kf kg) → va_S A H0 H locs → ∀ ls : Array Slot, lv_has ls 2 [(0, .ref h), (1, .int (iI (k : Int)))] → W pr l en rm_X4_setAside s mi args below meth co H locs 0 0 Q (F0 mi 28 ls []) := by
          intro fu
          induction fu with
          | zero =>
            intro k gr gf gg hk hgr hgf hgg hfu
            exact absurd hfu (Nat.not_lt_zero _)
          | succ fu ih28 =>
            intro k gr gf gg hk hgr hgf hgg hfu H locs hP hD hS ls hl
            refine lv_iload_n hx hb dX4_setAside_28 rfl (lv_at hl 1 rfl) ?_
            refine kx_bipush (z := 6) hx hb dX4_setAside_29 (by decide) ?_
            refine kx_icmp_ge (tgt := 76) hx hb (by omega) (by omega) dX4_setAside_31 (by decide) (fun h31 => ?_) (fun h31 => ?_)
            · skip
              obtain ⟨hP, hD⟩ := kx_arr (g' := ra) hP hD 11 rfl (fun j hj => hgr j (by omega))
              have hP : va_P D vwCl (mdW cI cZ h m1 m4 m5 m6 m7 m8 m9 m21 m22 m23 m24 m25 m26 m30 m31 m32 m33 m34 m35 pl nd lk st bo ti te nr ml nn nl du nO nT wm wb ik kt kl hh pg dl er ra ck fa ft nw tu ck ra gf gg kc kr ke kd kf kg) H := hP
              have hD : va_D A (mdW cI cZ h m1 m4 m5 m6 m7 m8 m9 m21 m22 m23 m24 m25 m26 m30 m31 m32 m33 m34 m35 pl nd lk st bo ti te nr ml nn nl du nO nT wm wb ik kt kl hh pg dl er ra ck fa ft nw tu ck ra gf gg kc kr ke kd kf kg) := hD
              obtain ⟨hP, hD⟩ := kx_arr (g' := fa) hP hD 12 rfl (fun j hj => hgf j (by omega))
              have hP : va_P D vwCl (mdW cI cZ h m1 m4 m5 m6 m7 m8 m9 m21 m22 m23 m24 m25 m26 m30 m31 m32 m33 m34 m35 pl nd lk st bo ti te nr ml nn nl du nO nT wm wb ik kt kl hh pg dl er ra ck fa ft nw tu ck ra fa gg kc kr ke kd kf kg) H := hP
              have hD : va_D A (mdW cI cZ h m1 m4 m5 m6 m7 m8 m9 m21 m22 m23 m24 m25 m26 m30 m31 m32 m33 m34 m35 pl nd lk st bo ti te nr ml nn nl du nO nT wm wb ik kt kl hh pg dl er ra ck fa ft nw tu ck ra fa gg kc kr ke kd kf kg) := hD
              obtain ⟨hP, hD⟩ := kx_arr (g' := ft) hP hD 13 rfl (fun j hj => hgg j (by omega))
              have hP : va_P D vwCl (mdW cI cZ h m1 m4 m5 m6 m7 m8 m9 m21 m22 m23 m24 m25 m26 m30 m31 m32 m33 m34 m35 pl nd lk st bo ti te nr ml nn nl du nO nT wm wb ik kt kl hh pg dl er ra ck fa ft nw tu ck ra fa ft kc kr ke kd kf kg) H := hP
              have hD : va_D A (mdW cI cZ h m1 m4 m5 m6 m7 m8 m9 m21 m22 m23 m24 m25 m26 m30 m31 m32 m33 m34 m35 pl nd lk st bo ti te nr ml nn nl du nO nT wm wb ik kt kl hh pg dl er ra ck fa ft nw tu ck ra fa ft kc kr ke kd kf kg) := hD
              exact hret () H locs _ _ (trivial) hP hD hS dX4_setAside_76
            · skip
              refine lv_aload_n hx hb dX4_setAside_34 rfl (lv_at hl 0 rfl) ?_
              refine va_get (D := D) (ci := 4) (v := .ref m24) (C := RX4) (T := TX4) (N := 39) hx hb hts iX4 hown hK.1 hP 0 rfl rfl 24 (by decide) (hts (.fieldLink RX4 48 "CloseClocksModel" "triedRates" "[I") (by decide +kernel)) (fun _ h9 => h9) rfl dX4_setAside_35 ?_
              refine lv_iload_n hx hb dX4_setAside_38 rfl (lv_at hl 1 rfl) ?_
              refine lv_aload_n hx hb dX4_setAside_39 rfl (lv_at hl 0 rfl) ?_
              refine va_get (D := D) (ci := 4) (v := .ref m6) (C := RX4) (T := TX4) (N := 39) hx hb hts iX4 hown hK.1 hP 0 rfl rfl 6 (by decide) (hts (.fieldLink RX4 19 "CloseClocksModel" "rateOf" "[I") (by decide +kernel)) (fun _ h9 => h9) rfl dX4_setAside_40 ?_
              refine lv_iload_n hx hb dX4_setAside_43 rfl (lv_at hl 1 rfl) ?_
              refine kx_iald (k := k) hx hb hK hP 4 rfl (by omega) (by omega) (by decide) dX4_setAside_44 ?_
              refine kx_iast (k := k) (x := (ra k)) hx hb hK hP hD hS 11 rfl (by omega) (by omega) (by decide) dX4_setAside_45 (fun H locs hP hD hS => ?_)
              have hP : va_P D vwCl (mdW cI cZ h m1 m4 m5 m6 m7 m8 m9 m21 m22 m23 m24 m25 m26 m30 m31 m32 m33 m34 m35 pl nd lk st bo ti te nr ml nn nl du nO nT wm wb ik kt kl hh pg dl er ra ck fa ft nw tu ck (va_up gr k (ra k)) gf gg kc kr ke kd kf kg) H := hP
              have hD : va_D A (mdW cI cZ h m1 m4 m5 m6 m7 m8 m9 m21 m22 m23 m24 m25 m26 m30 m31 m32 m33 m34 m35 pl nd lk st bo ti te nr ml nn nl du nO nT wm wb ik kt kl hh pg dl er ra ck fa ft nw tu ck (va_up gr k (ra k)) gf gg kc kr ke kd kf kg) := hD
              refine lv_aload_n hx hb dX4_setAside_46 rfl (lv_at hl 0 rfl) ?_
              refine va_get (D := D) (ci := 4) (v := .ref m25) (C := RX4) (T := TX4) (N := 39) hx hb hts iX4 hown hK.1 hP 0 rfl rfl 25 (by decide) (hts (.fieldLink RX4 51 "CloseClocksModel" "triedFast" "[Z") (by decide +kernel)) (fun _ h9 => h9) rfl dX4_setAside_47 ?_
              refine lv_iload_n hx hb dX4_setAside_50 rfl (lv_at hl 1 rfl) ?_
              refine lv_aload_n hx hb dX4_setAside_51 rfl (lv_at hl 0 rfl) ?_
              refine va_get (D := D) (ci := 4) (v := .ref m8) (C := RX4) (T := TX4) (N := 39) hx hb hts iX4 hown hK.1 hP 0 rfl rfl 8 (by decide) (hts (.fieldLink RX4 25 "CloseClocksModel" "isFast" "[Z") (by decide +kernel)) (fun _ h9 => h9) rfl dX4_setAside_52 ?_
              refine lv_iload_n hx hb dX4_setAside_55 rfl (lv_at hl 1 rfl) ?_
              refine kx_zald (k := k) hx hb hK hP 6 rfl (by omega) (by omega) (by decide) dX4_setAside_56 ?_
              have rg_1 := hfa k (by omega)
              refine kx_zast (k := k) (x := (fa k)) hx hb hK hP hD hS 12 rfl (by omega) (by omega) (by decide) (by omega) dX4_setAside_57 (fun H locs hP hD hS => ?_)
              have hP : va_P D vwCl (mdW cI cZ h m1 m4 m5 m6 m7 m8 m9 m21 m22 m23 m24 m25 m26 m30 m31 m32 m33 m34 m35 pl nd lk st bo ti te nr ml nn nl du nO nT wm wb ik kt kl hh pg dl er ra ck fa ft nw tu ck (va_up gr k (ra k)) (va_up gf k (fa k)) gg kc kr ke kd kf kg) H := hP
              have hD : va_D A (mdW cI cZ h m1 m4 m5 m6 m7 m8 m9 m21 m22 m23 m24 m25 m26 m30 m31 m32 m33 m34 m35 pl nd lk st bo ti te nr ml nn nl du nO nT wm wb ik kt kl hh pg dl er ra ck fa ft nw tu ck (va_up gr k (ra k)) (va_up gf k (fa k)) gg kc kr ke kd kf kg) := hD
              refine lv_aload_n hx hb dX4_setAside_58 rfl (lv_at hl 0 rfl) ?_
              refine va_get (D := D) (ci := 4) (v := .ref m26) (C := RX4) (T := TX4) (N := 39) hx hb hts iX4 hown hK.1 hP 0 rfl rfl 26 (by decide) (hts (.fieldLink RX4 54 "CloseClocksModel" "triedTicks" "[I") (by decide +kernel)) (fun _ h9 => h9) rfl dX4_setAside_59 ?_
              refine lv_iload_n hx hb dX4_setAside_62 rfl (lv_at hl 1 rfl) ?_
              refine lv_aload_n hx hb dX4_setAside_63 rfl (lv_at hl 0 rfl) ?_
              refine va_get (D := D) (ci := 4) (v := .ref m9) (C := RX4) (T := TX4) (N := 39) hx hb hts iX4 hown hK.1 hP 0 rfl rfl 9 (by decide) (hts (.fieldLink RX4 29 "CloseClocksModel" "fastTicks" "[I") (by decide +kernel)) (fun _ h9 => h9) rfl dX4_setAside_64 ?_
              refine lv_iload_n hx hb dX4_setAside_67 rfl (lv_at hl 1 rfl) ?_
              refine kx_iald (k := k) hx hb hK hP 7 rfl (by omega) (by omega) (by decide) dX4_setAside_68 ?_
              refine kx_iast (k := k) (x := (ft k)) hx hb hK hP hD hS 13 rfl (by omega) (by omega) (by decide) dX4_setAside_69 (fun H locs hP hD hS => ?_)
              have hP : va_P D vwCl (mdW cI cZ h m1 m4 m5 m6 m7 m8 m9 m21 m22 m23 m24 m25 m26 m30 m31 m32 m33 m34 m35 pl nd lk st bo ti te nr ml nn nl du nO nT wm wb ik kt kl hh pg dl er ra ck fa ft nw tu ck (va_up gr k (ra k)) (va_up gf k (fa k)) (va_up gg k (ft k)) kc kr ke kd kf kg) H := hP
              have hD : va_D A (mdW cI cZ h m1 m4 m5 m6 m7 m8 m9 m21 m22 m23 m24 m25 m26 m30 m31 m32 m33 m34 m35 pl nd lk st bo ti te nr ml nn nl du nO nT wm wb ik kt kl hh pg dl er ra ck fa ft nw tu ck (va_up gr k (ra k)) (va_up gf k (fa k)) (va_up gg k (ft k)) kc kr ke kd kf kg) := hD
              refine kx_iinc (z := ((k + 1 : Nat) : Int)) (lv' := [(1, .int (iI ((k + 1 : Nat) : Int))), (0, .ref h)]) hx hb dX4_setAside_70 hl (k0 := 1) rfl (by omega) (by decide) rfl (fun ls hl => ?_)
              refine lv_goto (tgt := 28) hx hb dX4_setAside_73 (by decide) ?_
              exact ih28 (k + 1) (va_up gr k (ra k)) (va_up gf k (fa k)) (va_up gg k (ft k)) (by first | assumption | omega) (cpy_lt hgr) (cpy_lt hgf) (cpy_lt hgg) (by omega) H locs hP hD hS ls (lv_sub hl [1, 0] rfl)
        exact L28 (6 - 0 + 1) 0 tr tf tt (by first | assumption | omega) (fun j hj => absurd hj (Nat.not_lt_zero j)) (fun j hj => absurd hj (Nat.not_lt_zero j)) (fun j hj => absurd hj (Nat.not_lt_zero j)) (Nat.lt_succ_self _) H locs hP hD hS ls (lv_sub hl [1, 0] rfl)
      · skip
        refine lv_aload_n hx hb dX4_setAside_8 rfl (lv_at hl 0 rfl) ?_
        refine va_get (D := D) (ci := 4) (v := .ref m23) (C := RX4) (T := TX4) (N := 39) hx hb hts iX4 hown hK.1 hP 0 rfl rfl 23 (by decide) (hts (.fieldLink RX4 45 "CloseClocksModel" "triedClocks" "[I") (by decide +kernel)) (fun _ h9 => h9) rfl dX4_setAside_9 ?_
        refine lv_iload_n hx hb dX4_setAside_12 rfl (lv_at hl 1 rfl) ?_
        refine lv_aload_n hx hb dX4_setAside_13 rfl (lv_at hl 0 rfl) ?_
        refine va_get (D := D) (ci := 4) (v := .ref m7) (C := RX4) (T := TX4) (N := 39) hx hb hts iX4 hown hK.1 hP 0 rfl rfl 7 (by decide) (hts (.fieldLink RX4 22 "CloseClocksModel" "clockAt" "[I") (by decide +kernel)) (fun _ h9 => h9) rfl dX4_setAside_14 ?_
        refine lv_iload_n hx hb dX4_setAside_17 rfl (lv_at hl 1 rfl) ?_
        refine kx_iald (k := k) hx hb hK hP 5 rfl (by omega) (by omega) (by decide) dX4_setAside_18 ?_
        refine kx_iast (k := k) (x := (ck k)) hx hb hK hP hD hS 10 rfl (by omega) (by omega) (by decide) dX4_setAside_19 (fun H locs hP hD hS => ?_)
        have hP : va_P D vwCl (mdW cI cZ h m1 m4 m5 m6 m7 m8 m9 m21 m22 m23 m24 m25 m26 m30 m31 m32 m33 m34 m35 pl nd lk st bo ti te nr ml nn nl du nO nT wm wb ik kt kl hh pg dl er ra ck fa ft nw tu (va_up gc k (ck k)) tr tf tt kc kr ke kd kf kg) H := hP
        have hD : va_D A (mdW cI cZ h m1 m4 m5 m6 m7 m8 m9 m21 m22 m23 m24 m25 m26 m30 m31 m32 m33 m34 m35 pl nd lk st bo ti te nr ml nn nl du nO nT wm wb ik kt kl hh pg dl er ra ck fa ft nw tu (va_up gc k (ck k)) tr tf tt kc kr ke kd kf kg) := hD
        refine kx_iinc (z := ((k + 1 : Nat) : Int)) (lv' := [(1, .int (iI ((k + 1 : Nat) : Int))), (0, .ref h)]) hx hb dX4_setAside_20 hl (k0 := 1) rfl (by omega) (by decide) rfl (fun ls hl => ?_)
        refine lv_goto (tgt := 2) hx hb dX4_setAside_23 (by decide) ?_
        exact ih2 (k + 1) (va_up gc k (ck k)) (by first | assumption | omega) (cpy_lt hgc) (by omega) H locs hP hD hS ls (lv_sub hl [1, 0] rfl)
  exact L2 (24 - 0 + 1) 0 tc (by first | assumption | omega) (fun j hj => absurd hj (Nat.not_lt_zero j)) (Nat.lt_succ_self _) H locs hP hD hS ls (lv_sub hl [1, 0] rfl)
def rm_X4_setBack : Room := ({ frames := 0, cells := 0, slots := 0, locals := 0 } : Room)
set_option maxHeartbeats 4000000 in
set_option maxRecDepth 100000 in
theorem c_X4_setBack (l : Launch) (D : va_G) (cI cZ : ClassId) (h m1 m4 m5 m6 m7 m8 m9 m21 m22 m23 m24 m25 m26 m30 m31 m32 m33 m34 m35 : Nat) (pl nd lk st bo ti te nr ml nn nl du nO nT wm wb ik kt kl : Int) (hh : Int64) (pg dl er ra ck fa ft nw tu tc tr tf tt kc kr ke kd kf kg : Nat → Int)  (htf : ∀ k : Nat, k < 6 → tf k = 0 ∨ tf k = 1) : kWR l yX4_setBack wsX4_setBack rm_X4_setBack D cI cZ [.ref h] (mdW cI cZ h m1 m4 m5 m6 m7 m8 m9 m21 m22 m23 m24 m25 m26 m30 m31 m32 m33 m34 m35 pl nd lk st bo ti te nr ml nn nl du nO nT wm wb ik kt kl hh pg dl er ra ck fa ft nw tu tc tr tf tt kc kr ke kd kf kg) (fun u : Unit => none) (fun u : Unit => True) (fun u : Unit => mdW cI cZ h m1 m4 m5 m6 m7 m8 m9 m21 m22 m23 m24 m25 m26 m30 m31 m32 m33 m34 m35 pl nd lk st bo ti te nr ml nn nl du nO nT wm wb ik kt kl hh pg dl er tr tc tf tt nw tu tc tr tf tt kc kr ke kd kf kg) 0 0 := by
  refine kx_WRv (cc := cX4_setBack) (maxL := 2) (by decide) rfl (Nat.le_of_ble_eq_true rfl) ?_
  intro pr en s mi args below meth co Q A hx hb hml hown hts hK hin hA hP hD hS hret ls hl
  have hown : s.vm.findClass RX4 = some mi.cls := hown
  have iX4 : ∀ w ∈ wsX40, w ∈ wsX4_setBack := by decide +kernel
  have hl : lv_has ls 2 [(0, .ref h)] := hl
  generalize hH0 : s.heap = H0 at hA hP hS hret ⊢
  obtain ⟨H, hH⟩ : ∃ H : Heap, H = H0 := ⟨_, rfl⟩
  obtain ⟨locs, hlocs⟩ : ∃ locs : List Loc, locs = [] := ⟨_, rfl⟩
  have hS : va_S A H0 H locs := by rw [hH, hlocs]; exact hS
  have hP : va_P D vwCl (mdW cI cZ h m1 m4 m5 m6 m7 m8 m9 m21 m22 m23 m24 m25 m26 m30 m31 m32 m33 m34 m35 pl nd lk st bo ti te nr ml nn nl du nO nT wm wb ik kt kl hh pg dl er ra ck fa ft nw tu tc tr tf tt kc kr ke kd kf kg) H := by rw [hH]; exact hP
  suffices hgo : W pr l en rm_X4_setBack s mi args below meth co H locs 0 0 Q (F0 mi 0 ls []) by rw [hH, hlocs] at hgo; exact hgo
  clear hH hlocs
  refine kx_const (z := 0) hx hb dX4_setBack_0 rfl ?_
  refine lv_istore_n (lv' := [(1, .int (iI 0)), (0, .ref h)]) hx hb dX4_setBack_1 rfl hl (by decide) rfl (fun ls hl => ?_)
  have L2 : ∀ (fu : Nat) (k : Nat) (gc : Nat → Int), (k ≤ 24) → (∀ j : Nat, j < k → gc j = tc j) → 24 - k < fu → ∀ (H : Heap) (locs : List Loc), va_P D vwCl (mdW cI cZ h m1 m4 m5 m6 m7 m8 m9 m21 m22 m23 m24 m25 m26 m30 m31 m32 m33 m34 m35 pl nd lk st bo ti te nr ml nn nl du nO nT wm wb ik kt kl hh pg dl er ra gc fa ft nw tu tc tr tf tt kc kr ke kd kf kg) H → va_D A (mdW cI cZ h m1 m4 m5 m6 m7 m8 m9 m21 m22 m23 m24 m25 m26 m30 m31 m32 m33 m34 m35 pl nd lk st bo ti te nr ml nn nl du nO nT wm wb ik kt kl hh pg dl er ra gc fa ft nw tu tc tr tf tt kc kr ke kd kf kg) → va_S A H0 H locs → ∀ ls : Array Slot, lv_has ls 2 [(0, .ref h), (1, .int (iI (k : Int)))] → W pr l en rm_X4_setBack s mi args below meth co H locs 0 0 Q (F0 mi 2 ls []) := by
    intro fu
    induction fu with
    | zero =>
      intro k gc hk hgc hfu
      exact absurd hfu (Nat.not_lt_zero _)
    | succ fu ih2 =>
      intro k gc hk hgc hfu H locs hP hD hS ls hl
      refine lv_iload_n hx hb dX4_setBack_2 rfl (lv_at hl 1 rfl) ?_
      refine kx_bipush (z := 24) hx hb dX4_setBack_3 (by decide) ?_
      refine kx_icmp_ge (tgt := 26) hx hb (by omega) (by omega) dX4_setBack_5 (by decide) (fun h5 => ?_) (fun h5 => ?_)
      · skip
        obtain ⟨hP, hD⟩ := kx_arr (g' := tc) hP hD 5 rfl (fun j hj => hgc j (by omega))
        have hP : va_P D vwCl (mdW cI cZ h m1 m4 m5 m6 m7 m8 m9 m21 m22 m23 m24 m25 m26 m30 m31 m32 m33 m34 m35 pl nd lk st bo ti te nr ml nn nl du nO nT wm wb ik kt kl hh pg dl er ra tc fa ft nw tu tc tr tf tt kc kr ke kd kf kg) H := hP
        have hD : va_D A (mdW cI cZ h m1 m4 m5 m6 m7 m8 m9 m21 m22 m23 m24 m25 m26 m30 m31 m32 m33 m34 m35 pl nd lk st bo ti te nr ml nn nl du nO nT wm wb ik kt kl hh pg dl er ra tc fa ft nw tu tc tr tf tt kc kr ke kd kf kg) := hD
        refine kx_const (z := 0) hx hb dX4_setBack_26 rfl ?_
        refine lv_istore_n (lv' := [(1, .int (iI 0)), (0, .ref h)]) hx hb dX4_setBack_27 rfl hl (by decide) rfl (fun ls hl => ?_)
        have L28 : ∀ (fu : Nat) (k : Nat) (gr : Nat → Int) (gf : Nat → Int) (gg : Nat → Int), (k ≤ 6) → (∀ j : Nat, j < k → gr j = tr j) → (∀ j : Nat, j < k → gf j = tf j) → (∀ j : Nat, j < k → gg j = tt j) → 6 - k < fu → ∀ (H : Heap) (locs : List Loc), va_P D vwCl (mdW cI cZ h m1 m4 m5 m6 m7 m8 m9 m21 m22 m23 m24 m25 m26 m30 m31 m32 m33 m34 m35 pl nd lk st bo ti te nr ml nn nl du nO nT wm wb ik kt kl hh pg dl er gr tc gf gg nw tu tc tr tf tt kc kr ke kd kf kg) H → va_D A (mdW cI cZ h m1 m4 m5 m6 m7 m8 m9 m21 m22 m23 m24 m25 m26 m30 m31 m32 m33 m34 m35 pl nd lk st bo ti te nr ml nn nl du nO nT wm wb ik kt kl hh pg dl er gr tc gf gg nw tu tc tr tf tt kc kr ke kd kf kg) → va_S A H0 H locs → ∀ ls : Array Slot, lv_has ls 2 [(0, .ref h), (1, .int (iI (k : Int)))] → W pr l en rm_X4_setBack s mi args below meth co H locs 0 0 Q (F0 mi 28 ls []) := by
          intro fu
          induction fu with
          | zero =>
            intro k gr gf gg hk hgr hgf hgg hfu
            exact absurd hfu (Nat.not_lt_zero _)
          | succ fu ih28 =>
            intro k gr gf gg hk hgr hgf hgg hfu H locs hP hD hS ls hl
            refine lv_iload_n hx hb dX4_setBack_28 rfl (lv_at hl 1 rfl) ?_
            refine kx_bipush (z := 6) hx hb dX4_setBack_29 (by decide) ?_
            refine kx_icmp_ge (tgt := 76) hx hb (by omega) (by omega) dX4_setBack_31 (by decide) (fun h31 => ?_) (fun h31 => ?_)
            · skip
              obtain ⟨hP, hD⟩ := kx_arr (g' := tr) hP hD 4 rfl (fun j hj => hgr j (by omega))
              have hP : va_P D vwCl (mdW cI cZ h m1 m4 m5 m6 m7 m8 m9 m21 m22 m23 m24 m25 m26 m30 m31 m32 m33 m34 m35 pl nd lk st bo ti te nr ml nn nl du nO nT wm wb ik kt kl hh pg dl er tr tc gf gg nw tu tc tr tf tt kc kr ke kd kf kg) H := hP
              have hD : va_D A (mdW cI cZ h m1 m4 m5 m6 m7 m8 m9 m21 m22 m23 m24 m25 m26 m30 m31 m32 m33 m34 m35 pl nd lk st bo ti te nr ml nn nl du nO nT wm wb ik kt kl hh pg dl er tr tc gf gg nw tu tc tr tf tt kc kr ke kd kf kg) := hD
              obtain ⟨hP, hD⟩ := kx_arr (g' := tf) hP hD 6 rfl (fun j hj => hgf j (by omega))
              have hP : va_P D vwCl (mdW cI cZ h m1 m4 m5 m6 m7 m8 m9 m21 m22 m23 m24 m25 m26 m30 m31 m32 m33 m34 m35 pl nd lk st bo ti te nr ml nn nl du nO nT wm wb ik kt kl hh pg dl er tr tc tf gg nw tu tc tr tf tt kc kr ke kd kf kg) H := hP
              have hD : va_D A (mdW cI cZ h m1 m4 m5 m6 m7 m8 m9 m21 m22 m23 m24 m25 m26 m30 m31 m32 m33 m34 m35 pl nd lk st bo ti te nr ml nn nl du nO nT wm wb ik kt kl hh pg dl er tr tc tf gg nw tu tc tr tf tt kc kr ke kd kf kg) := hD
              obtain ⟨hP, hD⟩ := kx_arr (g' := tt) hP hD 7 rfl (fun j hj => hgg j (by omega))
              have hP : va_P D vwCl (mdW cI cZ h m1 m4 m5 m6 m7 m8 m9 m21 m22 m23 m24 m25 m26 m30 m31 m32 m33 m34 m35 pl nd lk st bo ti te nr ml nn nl du nO nT wm wb ik kt kl hh pg dl er tr tc tf tt nw tu tc tr tf tt kc kr ke kd kf kg) H := hP
              have hD : va_D A (mdW cI cZ h m1 m4 m5 m6 m7 m8 m9 m21 m22 m23 m24 m25 m26 m30 m31 m32 m33 m34 m35 pl nd lk st bo ti te nr ml nn nl du nO nT wm wb ik kt kl hh pg dl er tr tc tf tt nw tu tc tr tf tt kc kr ke kd kf kg) := hD
              exact hret () H locs _ _ (trivial) hP hD hS dX4_setBack_76
            · skip
              refine lv_aload_n hx hb dX4_setBack_34 rfl (lv_at hl 0 rfl) ?_
              refine va_get (D := D) (ci := 4) (v := .ref m6) (C := RX4) (T := TX4) (N := 39) hx hb hts iX4 hown hK.1 hP 0 rfl rfl 6 (by decide) (hts (.fieldLink RX4 19 "CloseClocksModel" "rateOf" "[I") (by decide +kernel)) (fun _ h9 => h9) rfl dX4_setBack_35 ?_
              refine lv_iload_n hx hb dX4_setBack_38 rfl (lv_at hl 1 rfl) ?_
              refine lv_aload_n hx hb dX4_setBack_39 rfl (lv_at hl 0 rfl) ?_
              refine va_get (D := D) (ci := 4) (v := .ref m24) (C := RX4) (T := TX4) (N := 39) hx hb hts iX4 hown hK.1 hP 0 rfl rfl 24 (by decide) (hts (.fieldLink RX4 48 "CloseClocksModel" "triedRates" "[I") (by decide +kernel)) (fun _ h9 => h9) rfl dX4_setBack_40 ?_
              refine lv_iload_n hx hb dX4_setBack_43 rfl (lv_at hl 1 rfl) ?_
              refine kx_iald (k := k) hx hb hK hP 11 rfl (by omega) (by omega) (by decide) dX4_setBack_44 ?_
              refine kx_iast (k := k) (x := (tr k)) hx hb hK hP hD hS 4 rfl (by omega) (by omega) (by decide) dX4_setBack_45 (fun H locs hP hD hS => ?_)
              have hP : va_P D vwCl (mdW cI cZ h m1 m4 m5 m6 m7 m8 m9 m21 m22 m23 m24 m25 m26 m30 m31 m32 m33 m34 m35 pl nd lk st bo ti te nr ml nn nl du nO nT wm wb ik kt kl hh pg dl er (va_up gr k (tr k)) tc gf gg nw tu tc tr tf tt kc kr ke kd kf kg) H := hP
              have hD : va_D A (mdW cI cZ h m1 m4 m5 m6 m7 m8 m9 m21 m22 m23 m24 m25 m26 m30 m31 m32 m33 m34 m35 pl nd lk st bo ti te nr ml nn nl du nO nT wm wb ik kt kl hh pg dl er (va_up gr k (tr k)) tc gf gg nw tu tc tr tf tt kc kr ke kd kf kg) := hD
              refine lv_aload_n hx hb dX4_setBack_46 rfl (lv_at hl 0 rfl) ?_
              refine va_get (D := D) (ci := 4) (v := .ref m8) (C := RX4) (T := TX4) (N := 39) hx hb hts iX4 hown hK.1 hP 0 rfl rfl 8 (by decide) (hts (.fieldLink RX4 25 "CloseClocksModel" "isFast" "[Z") (by decide +kernel)) (fun _ h9 => h9) rfl dX4_setBack_47 ?_
              refine lv_iload_n hx hb dX4_setBack_50 rfl (lv_at hl 1 rfl) ?_
              refine lv_aload_n hx hb dX4_setBack_51 rfl (lv_at hl 0 rfl) ?_
              refine va_get (D := D) (ci := 4) (v := .ref m25) (C := RX4) (T := TX4) (N := 39) hx hb hts iX4 hown hK.1 hP 0 rfl rfl 25 (by decide) (hts (.fieldLink RX4 51 "CloseClocksModel" "triedFast" "[Z") (by decide +kernel)) (fun _ h9 => h9) rfl dX4_setBack_52 ?_
              refine lv_iload_n hx hb dX4_setBack_55 rfl (lv_at hl 1 rfl) ?_
              refine kx_zald (k := k) hx hb hK hP 12 rfl (by omega) (by omega) (by decide) dX4_setBack_56 ?_
              have rg_1 := htf k (by omega)
              refine kx_zast (k := k) (x := (tf k)) hx hb hK hP hD hS 6 rfl (by omega) (by omega) (by decide) (by omega) dX4_setBack_57 (fun H locs hP hD hS => ?_)
              have hP : va_P D vwCl (mdW cI cZ h m1 m4 m5 m6 m7 m8 m9 m21 m22 m23 m24 m25 m26 m30 m31 m32 m33 m34 m35 pl nd lk st bo ti te nr ml nn nl du nO nT wm wb ik kt kl hh pg dl er (va_up gr k (tr k)) tc (va_up gf k (tf k)) gg nw tu tc tr tf tt kc kr ke kd kf kg) H := hP
              have hD : va_D A (mdW cI cZ h m1 m4 m5 m6 m7 m8 m9 m21 m22 m23 m24 m25 m26 m30 m31 m32 m33 m34 m35 pl nd lk st bo ti te nr ml nn nl du nO nT wm wb ik kt kl hh pg dl er (va_up gr k (tr k)) tc (va_up gf k (tf k)) gg nw tu tc tr tf tt kc kr ke kd kf kg) := hD
              refine lv_aload_n hx hb dX4_setBack_58 rfl (lv_at hl 0 rfl) ?_
              refine va_get (D := D) (ci := 4) (v := .ref m9) (C := RX4) (T := TX4) (N := 39) hx hb hts iX4 hown hK.1 hP 0 rfl rfl 9 (by decide) (hts (.fieldLink RX4 29 "CloseClocksModel" "fastTicks" "[I") (by decide +kernel)) (fun _ h9 => h9) rfl dX4_setBack_59 ?_
              refine lv_iload_n hx hb dX4_setBack_62 rfl (lv_at hl 1 rfl) ?_
              refine lv_aload_n hx hb dX4_setBack_63 rfl (lv_at hl 0 rfl) ?_
              refine va_get (D := D) (ci := 4) (v := .ref m26) (C := RX4) (T := TX4) (N := 39) hx hb hts iX4 hown hK.1 hP 0 rfl rfl 26 (by decide) (hts (.fieldLink RX4 54 "CloseClocksModel" "triedTicks" "[I") (by decide +kernel)) (fun _ h9 => h9) rfl dX4_setBack_64 ?_
              refine lv_iload_n hx hb dX4_setBack_67 rfl (lv_at hl 1 rfl) ?_
              refine kx_iald (k := k) hx hb hK hP 13 rfl (by omega) (by omega) (by decide) dX4_setBack_68 ?_
              refine kx_iast (k := k) (x := (tt k)) hx hb hK hP hD hS 7 rfl (by omega) (by omega) (by decide) dX4_setBack_69 (fun H locs hP hD hS => ?_)
              have hP : va_P D vwCl (mdW cI cZ h m1 m4 m5 m6 m7 m8 m9 m21 m22 m23 m24 m25 m26 m30 m31 m32 m33 m34 m35 pl nd lk st bo ti te nr ml nn nl du nO nT wm wb ik kt kl hh pg dl er (va_up gr k (tr k)) tc (va_up gf k (tf k)) (va_up gg k (tt k)) nw tu tc tr tf tt kc kr ke kd kf kg) H := hP
              have hD : va_D A (mdW cI cZ h m1 m4 m5 m6 m7 m8 m9 m21 m22 m23 m24 m25 m26 m30 m31 m32 m33 m34 m35 pl nd lk st bo ti te nr ml nn nl du nO nT wm wb ik kt kl hh pg dl er (va_up gr k (tr k)) tc (va_up gf k (tf k)) (va_up gg k (tt k)) nw tu tc tr tf tt kc kr ke kd kf kg) := hD
              refine kx_iinc (z := ((k + 1 : Nat) : Int)) (lv' := [(1, .int (iI ((k + 1 : Nat) : Int))), (0, .ref h)]) hx hb dX4_setBack_70 hl (k0 := 1) rfl (by omega) (by decide) rfl (fun ls hl => ?_)
              refine lv_goto (tgt := 28) hx hb dX4_setBack_73 (by decide) ?_
              exact ih28 (k + 1) (va_up gr k (tr k)) (va_up gf k (tf k)) (va_up gg k (tt k)) (by first | assumption | omega) (cpy_lt hgr) (cpy_lt hgf) (cpy_lt hgg) (by omega) H locs hP hD hS ls (lv_sub hl [1, 0] rfl)
        exact L28 (6 - 0 + 1) 0 ra fa ft (by first | assumption | omega) (fun j hj => absurd hj (Nat.not_lt_zero j)) (fun j hj => absurd hj (Nat.not_lt_zero j)) (fun j hj => absurd hj (Nat.not_lt_zero j)) (Nat.lt_succ_self _) H locs hP hD hS ls (lv_sub hl [1, 0] rfl)
      · skip
        refine lv_aload_n hx hb dX4_setBack_8 rfl (lv_at hl 0 rfl) ?_
        refine va_get (D := D) (ci := 4) (v := .ref m7) (C := RX4) (T := TX4) (N := 39) hx hb hts iX4 hown hK.1 hP 0 rfl rfl 7 (by decide) (hts (.fieldLink RX4 22 "CloseClocksModel" "clockAt" "[I") (by decide +kernel)) (fun _ h9 => h9) rfl dX4_setBack_9 ?_
        refine lv_iload_n hx hb dX4_setBack_12 rfl (lv_at hl 1 rfl) ?_
        refine lv_aload_n hx hb dX4_setBack_13 rfl (lv_at hl 0 rfl) ?_
        refine va_get (D := D) (ci := 4) (v := .ref m23) (C := RX4) (T := TX4) (N := 39) hx hb hts iX4 hown hK.1 hP 0 rfl rfl 23 (by decide) (hts (.fieldLink RX4 45 "CloseClocksModel" "triedClocks" "[I") (by decide +kernel)) (fun _ h9 => h9) rfl dX4_setBack_14 ?_
        refine lv_iload_n hx hb dX4_setBack_17 rfl (lv_at hl 1 rfl) ?_
        refine kx_iald (k := k) hx hb hK hP 10 rfl (by omega) (by omega) (by decide) dX4_setBack_18 ?_
        refine kx_iast (k := k) (x := (tc k)) hx hb hK hP hD hS 5 rfl (by omega) (by omega) (by decide) dX4_setBack_19 (fun H locs hP hD hS => ?_)
        have hP : va_P D vwCl (mdW cI cZ h m1 m4 m5 m6 m7 m8 m9 m21 m22 m23 m24 m25 m26 m30 m31 m32 m33 m34 m35 pl nd lk st bo ti te nr ml nn nl du nO nT wm wb ik kt kl hh pg dl er ra (va_up gc k (tc k)) fa ft nw tu tc tr tf tt kc kr ke kd kf kg) H := hP
        have hD : va_D A (mdW cI cZ h m1 m4 m5 m6 m7 m8 m9 m21 m22 m23 m24 m25 m26 m30 m31 m32 m33 m34 m35 pl nd lk st bo ti te nr ml nn nl du nO nT wm wb ik kt kl hh pg dl er ra (va_up gc k (tc k)) fa ft nw tu tc tr tf tt kc kr ke kd kf kg) := hD
        refine kx_iinc (z := ((k + 1 : Nat) : Int)) (lv' := [(1, .int (iI ((k + 1 : Nat) : Int))), (0, .ref h)]) hx hb dX4_setBack_20 hl (k0 := 1) rfl (by omega) (by decide) rfl (fun ls hl => ?_)
        refine lv_goto (tgt := 2) hx hb dX4_setBack_23 (by decide) ?_
        exact ih2 (k + 1) (va_up gc k (tc k)) (by first | assumption | omega) (cpy_lt hgc) (by omega) H locs hP hD hS ls (lv_sub hl [1, 0] rfl)
  exact L2 (24 - 0 + 1) 0 ck (by first | assumption | omega) (fun j hj => absurd hj (Nat.not_lt_zero j)) (Nat.lt_succ_self _) H locs hP hD hS ls (lv_sub hl [1, 0] rfl)
def rm_X4_go : Room := ({ frames := 6, cells := 0, slots := 0, locals := 134 } : Room)
set_option maxHeartbeats 4000000 in
set_option maxRecDepth 100000 in
theorem c_X4_go (l : Launch) (D : va_G) (cI cZ : ClassId) (h m1 m4 m5 m6 m7 m8 m9 m21 m22 m23 m24 m25 m26 m30 m31 m32 m33 m34 m35 : Nat) (pl nd lk st bo ti te nr ml nn nl du nO nT wm wb ik kt kl : Int) (hh : Int64) (pg dl er ra ck fa ft nw tu tc tr tf tt kc kr ke kd kf kg : Nat → Int) (z : Int) (hnd : 0 ≤ nd ∧ nd ≤ 6) (hdl : ∀ k : Nat, k < 36 → dl k = -100000001 ∨ (0 ≤ dl k ∧ dl k ≤ 3)) (hck4 : ∀ k : Nat, k < 24 → 0 ≤ ck k ∧ ck k ≤ 40000000) (her : ∀ k : Nat, k < 36 → -9 ≤ er k ∧ er k ≤ 9) (hst : 1 ≤ st ∧ st ≤ 500) (hfa : ∀ k : Nat, k < 6 → fa k = 0 ∨ fa k = 1) (hra : ∀ k : Nat, k < 6 → 0 ≤ ra k ∧ ra k ≤ 110) (hbo : 1 ≤ bo ∧ bo ≤ 60) (hti : 0 ≤ ti ∧ ti ≤ 9000) (hml : 0 ≤ ml ∧ ml ≤ 50000000) (hz : -2147483648 ≤ z ∧ z < 2147483648) : kWR l yX4_go wsX4_go rm_X4_go D cI cZ [.ref h, .int (iI z)] (mdW cI cZ h m1 m4 m5 m6 m7 m8 m9 m21 m22 m23 m24 m25 m26 m30 m31 m32 m33 m34 m35 pl nd lk st bo ti te nr ml nn nl du nO nT wm wb ik kt kl hh pg dl er ra ck fa ft nw tu tc tr tf tt kc kr ke kd kf kg) (fun u : (Nat → Int) × Int × Int × Int × (Nat → Int) × (Nat → Int) × (Nat → Int) => some (.int (iI (if ¬ (1 ≤ z ∧ z ≤ 100) then -100000003 else if nd = 0 ∨ 9000 < ti + z then -100000004 else mLo (itS dl er ra nd st bo ck fa z.toNat).1 dl nd)))) (fun u : (Nat → Int) × Int × Int × Int × (Nat → Int) × (Nat → Int) × (Nat → Int) => u.2.1 = (if ((1 ≤ z ∧ z ≤ 100) ∧ nd ≠ 0 ∧ ti + z ≤ 9000) then ti + z else ti) ∧ u.2.2.1 = (if ((1 ≤ z ∧ z ≤ 100) ∧ nd ≠ 0 ∧ ti + z ≤ 9000) then te + z else te) ∧ u.2.2.2.1 = (if ((1 ≤ z ∧ z ≤ 100) ∧ nd ≠ 0 ∧ ti + z ≤ 9000) then itM dl er ra nd st bo ck fa ml z.toNat else ml) ∧ u.2.2.2.2.1 = (if ((1 ≤ z ∧ z ≤ 100) ∧ nd ≠ 0 ∧ ti + z ≤ 9000) then (itS dl er ra nd st bo ck fa z.toNat).1 else ck) ∧ u.2.2.2.2.2.1 = (if ((1 ≤ z ∧ z ≤ 100) ∧ nd ≠ 0 ∧ ti + z ≤ 9000) then (itS dl er ra nd st bo ck fa z.toNat).2 else fa) ∧ u.2.2.2.2.2.2 = (if ((1 ≤ z ∧ z ≤ 100) ∧ nd ≠ 0 ∧ ti + z ≤ 9000) then itT dl er ra nd st bo ck fa ft z.toNat else ft)) (fun u : (Nat → Int) × Int × Int × Int × (Nat → Int) × (Nat → Int) × (Nat → Int) => mdW cI cZ h m1 m4 m5 m6 m7 m8 m9 m21 m22 m23 m24 m25 m26 m30 m31 m32 m33 m34 m35 pl nd lk st bo u.2.1 u.2.2.1 nr u.2.2.2.1 nn nl du nO nT wm wb ik kt kl hh pg dl er ra u.2.2.2.2.1 u.2.2.2.2.2.1 u.2.2.2.2.2.2 nw u.1 tc tr tf tt kc kr ke kd kf kg) 0 0 := by
  refine kx_WRi (cc := cX4_go) (maxL := 3) (by decide) rfl (Nat.le_of_ble_eq_true rfl) ?_
  intro pr en s mi args below meth co Q A hx hb hml hown hts hK hin hA hP hD hS hret ls hl
  have hown : s.vm.findClass RX4 = some mi.cls := hown
  have iX4 : ∀ w ∈ wsX40, w ∈ wsX4_go := by decide +kernel
  have hl : lv_has ls 3 [(0, .ref h), (1, .int (iI z))] := hl
  generalize hH0 : s.heap = H0 at hA hP hS hret ⊢
  obtain ⟨H, hH⟩ : ∃ H : Heap, H = H0 := ⟨_, rfl⟩
  obtain ⟨locs, hlocs⟩ : ∃ locs : List Loc, locs = [] := ⟨_, rfl⟩
  have hS : va_S A H0 H locs := by rw [hH, hlocs]; exact hS
  have hP : va_P D vwCl (mdW cI cZ h m1 m4 m5 m6 m7 m8 m9 m21 m22 m23 m24 m25 m26 m30 m31 m32 m33 m34 m35 pl nd lk st bo ti te nr ml nn nl du nO nT wm wb ik kt kl hh pg dl er ra ck fa ft nw tu tc tr tf tt kc kr ke kd kf kg) H := by rw [hH]; exact hP
  suffices hgo : W pr l en rm_X4_go s mi args below meth co H locs 0 0 Q (F0 mi 0 ls []) by rw [hH, hlocs] at hgo; exact hgo
  clear hH hlocs
  refine lv_iload_n hx hb dX4_go_0 rfl (lv_at hl 1 rfl) ?_
  refine kx_const (z := 1) hx hb dX4_go_1 rfl ?_
  refine kx_bipush (z := 100) hx hb dX4_go_2 (by decide) ?_
  refine kx_cS (As := [.int (iI z), .int (iI 1), .int (iI 100)]) (rest := []) (st1 := [.int (iI (if (1 ≤ z ∧ z ≤ 100) then 1 else 0))]) ⟨hx, hb, hml, hown, hts⟩ (c_X4_within l D cI cZ z 1 100 (by first | assumption | omega) (by first | assumption | omega) (by first | assumption | omega)) (va_cwS 3 hts gX4_go_X4_within rfl rfl rfl (by decide +kernel) ⟨Nat.le_of_ble_eq_true rfl, Nat.le_of_ble_eq_true rfl⟩) hK (hP.sub (ws' := []) [] rfl) rfl hl.1 rfl (Nat.le_of_ble_eq_true rfl) dX4_go_4 ⟨Nat.zero_le _, Nat.zero_le _⟩ rfl ?_
  refine kx_if_neB (tgt := 13) hx hb dX4_go_7 (by decide) (fun h7 => ?_) (fun h7 => ?_)
  · skip
    refine lv_aload_n hx hb dX4_go_13 rfl (lv_at hl 0 rfl) ?_
    refine va_get (D := D) (ci := 4) (v := .int (iI nd)) (C := RX4) (T := TX4) (N := 39) hx hb hts iX4 hown hK.1 hP 0 rfl rfl 2 (by decide) (hts (.fieldLink RX4 112 "CloseClocksModel" "nodes" "I") (by decide +kernel)) (fun _ h9 => h9) rfl dX4_go_14 ?_
    refine kx_if_eq (tgt := 32) hx hb (by omega) dX4_go_17 (by decide) (fun h17 => ?_) (fun h17 => ?_)
    · skip
      refine kx_ldc (z := -100000004) hx hb hown (hts (.constant RX4 111 (-100000004)) (by decide +kernel)) dX4_go_32 (by decide) ?_
      refine kx_top (b := (if ¬ (1 ≤ z ∧ z ≤ 100) then -100000003 else if nd = 0 ∨ 9000 < ti + z then -100000004 else mLo (itS dl er ra nd st bo ck fa z.toNat).1 dl nd)) (by (repeat' split) <;> first | rfl | omega | contradiction | (rw [hie])) ?_
      exact hret (tu, ti, te, ml, ck, fa, ft) H locs _ _ (⟨(by (try dsimp only); (repeat' split) <;> first | rfl | omega | contradiction | (rw [hq1, hie]; done) | (rw [hie]; done)), (by (try dsimp only); (repeat' split) <;> first | rfl | omega | contradiction | (rw [hq1, hie]; done) | (rw [hie]; done)), (by (try dsimp only); (repeat' split) <;> first | rfl | omega | contradiction | (rw [hq1, hie]; done) | (rw [hie]; done)), (by (try dsimp only); (repeat' split) <;> first | rfl | omega | contradiction | (rw [hq1, hie]; done) | (rw [hie]; done)), (by (try dsimp only); (repeat' split) <;> first | rfl | omega | contradiction | (rw [hq1, hie]; done) | (rw [hie]; done)), (by (try dsimp only); (repeat' split) <;> first | rfl | omega | contradiction | (rw [hq1, hie]; done) | (rw [hie]; done))⟩) hP hD hS dX4_go_34
    · skip
      refine lv_aload_n hx hb dX4_go_20 rfl (lv_at hl 0 rfl) ?_
      refine va_get (D := D) (ci := 4) (v := .int (iI ti)) (C := RX4) (T := TX4) (N := 39) hx hb hts iX4 hown hK.1 hP 0 rfl rfl 12 (by decide) (hts (.fieldLink RX4 122 "CloseClocksModel" "ticks" "I") (by decide +kernel)) (fun _ h9 => h9) rfl dX4_go_21 ?_
      refine lv_iload_n hx hb dX4_go_24 rfl (lv_at hl 1 rfl) ?_
      refine kx_iadd hx hb dX4_go_25 ?_
      refine kx_sipush (z := 9000) hx hb dX4_go_26 (by decide) ?_
      refine kx_icmp_le (tgt := 35) hx hb (by omega) (by omega) dX4_go_29 (by decide) (fun h29 => ?_) (fun h29 => ?_)
      · skip
        refine kx_const (z := 0) hx hb dX4_go_35 rfl ?_
        refine lv_istore_n (lv' := [(2, .int (iI 0)), (0, .ref h), (1, .int (iI z))]) hx hb dX4_go_36 rfl hl (by decide) rfl (fun ls hl => ?_)
        have L37 : ∀ (fu : Nat) (i : Nat) (gu : Nat → Int) (t1 : Int) (e1 : Int) (q1 : Int), ((i : Int) ≤ z) → (t1 = ti + i) → (e1 = te + i) → (q1 = itM dl er ra nd st bo ck fa ml i) → (0 ≤ q1 ∧ q1 ≤ 50000000) → z.toNat - i < fu → ∀ (H : Heap) (locs : List Loc), va_P D vwCl (mdW cI cZ h m1 m4 m5 m6 m7 m8 m9 m21 m22 m23 m24 m25 m26 m30 m31 m32 m33 m34 m35 pl nd lk st bo t1 e1 nr q1 nn nl du nO nT wm wb ik kt kl hh pg dl er ra ((itS dl er ra nd st bo ck fa i).1) ((itS dl er ra nd st bo ck fa i).2) (itT dl er ra nd st bo ck fa ft i) nw gu tc tr tf tt kc kr ke kd kf kg) H → va_D A (mdW cI cZ h m1 m4 m5 m6 m7 m8 m9 m21 m22 m23 m24 m25 m26 m30 m31 m32 m33 m34 m35 pl nd lk st bo t1 e1 nr q1 nn nl du nO nT wm wb ik kt kl hh pg dl er ra ((itS dl er ra nd st bo ck fa i).1) ((itS dl er ra nd st bo ck fa i).2) (itT dl er ra nd st bo ck fa ft i) nw gu tc tr tf tt kc kr ke kd kf kg) → va_S A H0 H locs → ∀ ls : Array Slot, lv_has ls 3 [(0, .ref h), (1, .int (iI z)), (2, .int (iI (i : Int)))] → W pr l en rm_X4_go s mi args below meth co H locs 0 0 Q (F0 mi 37 ls []) := by
          intro fu
          induction fu with
          | zero =>
            intro i gu t1 e1 q1 hi ht1 he1 hq1 hqr hfu
            exact absurd hfu (Nat.not_lt_zero _)
          | succ fu ih37 =>
            intro i gu t1 e1 q1 hi ht1 he1 hq1 hqr hfu H locs hP hD hS ls hl
            have hbi := itS_bd (dl := dl) (er := er) (nd := nd) (st := st) hck4 hfa hra hbo i
            have hbj := itS_bd (dl := dl) (er := er) (nd := nd) (st := st) hck4 hfa hra hbo (i + 1)
            have hci : ∀ k : Nat, k < 24 → 0 ≤ (itS dl er ra nd st bo ck fa i).1 k ∧ (itS dl er ra nd st bo ck fa i).1 k ≤ 50000000 := fun k hk => by have := hbi.1 k hk; omega
            have hcj : ∀ k : Nat, k < 24 → 0 ≤ (itS dl er ra nd st bo ck fa (i + 1)).1 k ∧ (itS dl er ra nd st bo ck fa (i + 1)).1 k ≤ 50000000 := fun k hk => by have := hbj.1 k hk; omega
            have hlj := mLo_rng (dl := dl) hcj hnd
            refine lv_iload_n hx hb dX4_go_37 rfl (lv_at hl 2 rfl) ?_
            refine lv_iload_n hx hb dX4_go_38 rfl (lv_at hl 1 rfl) ?_
            refine kx_icmp_ge (tgt := 98) hx hb (by omega) (by omega) dX4_go_39 (by decide) (fun h39 => ?_) (fun h39 => ?_)
            · skip
              have hie : i = z.toNat := by omega
              have hiz : (i : Int) = z := by omega
              refine lv_aload_n hx hb dX4_go_98 rfl (lv_at hl 0 rfl) ?_
              refine kx_cV (As := []) (rest := []) (st1 := [.int (iI (mLo (itS dl er ra nd st bo ck fa i).1 dl nd))]) (q0 := 0) (ci := 4) ⟨hx, hb, hml, hown, hts⟩ (c_X4_local l D cI cZ h m1 m4 m5 m6 m7 m8 m9 m21 m22 m23 m24 m25 m26 m30 m31 m32 m33 m34 m35 pl nd lk st bo t1 e1 nr q1 nn nl du nO nT wm wb ik kt kl hh pg dl er ra ((itS dl er ra nd st bo ck fa i).1) ((itS dl er ra nd st bo ck fa i).2) (itT dl er ra nd st bo ck fa ft i) nw gu tc tr tf tt kc kr ke kd kf kg (by first | assumption | omega) (by first | assumption | omega) (hci)) (cwV 0 hts gX4_go_X4_local rfl rfl rfl (by decide +kernel) ⟨Nat.le_of_ble_eq_true rfl, Nat.le_of_ble_eq_true rfl⟩) hK hP rfl rfl rfl hl.1 rfl (Nat.le_of_ble_eq_true rfl) dX4_go_99 ⟨Nat.zero_le _, Nat.zero_le _⟩ rfl ?_
              refine kx_top (b := (if ¬ (1 ≤ z ∧ z ≤ 100) then -100000003 else if nd = 0 ∨ 9000 < ti + z then -100000004 else mLo (itS dl er ra nd st bo ck fa z.toNat).1 dl nd)) (by (repeat' split) <;> first | rfl | omega | contradiction | (rw [hie])) ?_
              exact hret (gu, t1, e1, q1, (itS dl er ra nd st bo ck fa i).1, (itS dl er ra nd st bo ck fa i).2, (itT dl er ra nd st bo ck fa ft i)) H locs _ _ (⟨(by (try dsimp only); (repeat' split) <;> first | rfl | omega | contradiction | (rw [hq1, hie]; done) | (rw [hie]; done)), (by (try dsimp only); (repeat' split) <;> first | rfl | omega | contradiction | (rw [hq1, hie]; done) | (rw [hie]; done)), (by (try dsimp only); (repeat' split) <;> first | rfl | omega | contradiction | (rw [hq1, hie]; done) | (rw [hie]; done)), (by (try dsimp only); (repeat' split) <;> first | rfl | omega | contradiction | (rw [hq1, hie]; done) | (rw [hie]; done)), (by (try dsimp only); (repeat' split) <;> first | rfl | omega | contradiction | (rw [hq1, hie]; done) | (rw [hie]; done)), (by (try dsimp only); (repeat' split) <;> first | rfl | omega | contradiction | (rw [hq1, hie]; done) | (rw [hie]; done))⟩) hP hD hS dX4_go_102
            · skip
              refine lv_aload_n hx hb dX4_go_42 rfl (lv_at hl 0 rfl) ?_
              refine kx_cVW (As := []) (rest := []) (wr := []) (q0 := 0) (ci := 4) ⟨hx, hb, hml, hown, hts⟩ (c_X4_tick l D cI cZ h m1 m4 m5 m6 m7 m8 m9 m21 m22 m23 m24 m25 m26 m30 m31 m32 m33 m34 m35 pl nd lk st bo t1 e1 nr q1 nn nl du nO nT wm wb ik kt kl hh pg dl er ra ((itS dl er ra nd st bo ck fa i).1) ((itS dl er ra nd st bo ck fa i).2) (itT dl er ra nd st bo ck fa ft i) nw gu tc tr tf tt kc kr ke kd kf kg (by first | assumption | omega) (by first | assumption | omega) (hci) (by first | assumption | omega) (by first | assumption | omega) (hbi.2) (by first | assumption | omega)) (cwV 0 hts gX4_go_X4_tick rfl rfl rfl (by decide +kernel) ⟨Nat.le_of_ble_eq_true rfl, Nat.le_of_ble_eq_true rfl⟩) hK hP hD hS hA [0, 1, 2, 3, 4, 5, 6, 7, 8, 9, 10, 11, 12, 13, 14, 15, 16, 17, 18, 19] [] rfl rfl (by decide) (by decide) (by decide) rfl rfl rfl hl.1 rfl (Nat.le_of_ble_eq_true rfl) dX4_go_43 ⟨Nat.le_of_ble_eq_true rfl, Nat.le_of_ble_eq_true rfl⟩ (fun u H locs hq hP hD hS => ?_)
              obtain ⟨u_1, hu⟩ : ∃ z, z = u := ⟨_, rfl⟩
              subst hu
              have hP : va_P D vwCl (mdW cI cZ h m1 m4 m5 m6 m7 m8 m9 m21 m22 m23 m24 m25 m26 m30 m31 m32 m33 m34 m35 pl nd lk st bo t1 e1 nr q1 nn nl du nO nT wm wb ik kt kl hh pg dl er ra (tCk (itS dl er ra nd st bo ck fa i).1 dl er (itS dl er ra nd st bo ck fa i).2 ra nd st bo) (tFa (itS dl er ra nd st bo ck fa i).1 dl er (itS dl er ra nd st bo ck fa i).2 nd st) (tFt (itS dl er ra nd st bo ck fa i).1 dl er (itS dl er ra nd st bo ck fa i).2 (itT dl er ra nd st bo ck fa ft i) nd st) nw u_1 tc tr tf tt kc kr ke kd kf kg) H := hP.sub [0, 1, 2, 3, 4, 5, 6, 7, 8, 9, 10, 11, 12, 13, 14, 15, 16, 17, 18, 19] rfl
              have hD : va_D A (mdW cI cZ h m1 m4 m5 m6 m7 m8 m9 m21 m22 m23 m24 m25 m26 m30 m31 m32 m33 m34 m35 pl nd lk st bo t1 e1 nr q1 nn nl du nO nT wm wb ik kt kl hh pg dl er ra (tCk (itS dl er ra nd st bo ck fa i).1 dl er (itS dl er ra nd st bo ck fa i).2 ra nd st bo) (tFa (itS dl er ra nd st bo ck fa i).1 dl er (itS dl er ra nd st bo ck fa i).2 nd st) (tFt (itS dl er ra nd st bo ck fa i).1 dl er (itS dl er ra nd st bo ck fa i).2 (itT dl er ra nd st bo ck fa ft i) nd st) nw u_1 tc tr tf tt kc kr ke kd kf kg) := hD.sub [0, 1, 2, 3, 4, 5, 6, 7, 8, 9, 10, 11, 12, 13, 14, 15, 16, 17, 18, 19] (by decide) rfl
              refine W.eq (g2 := F0 mi 46 ls []) rfl ?_
              have hP : va_P D vwCl (mdW cI cZ h m1 m4 m5 m6 m7 m8 m9 m21 m22 m23 m24 m25 m26 m30 m31 m32 m33 m34 m35 pl nd lk st bo t1 e1 nr q1 nn nl du nO nT wm wb ik kt kl hh pg dl er ra ((itS dl er ra nd st bo ck fa (i + 1)).1) ((itS dl er ra nd st bo ck fa (i + 1)).2) (itT dl er ra nd st bo ck fa ft (i + 1)) nw u_1 tc tr tf tt kc kr ke kd kf kg) H := hP
              have hD : va_D A (mdW cI cZ h m1 m4 m5 m6 m7 m8 m9 m21 m22 m23 m24 m25 m26 m30 m31 m32 m33 m34 m35 pl nd lk st bo t1 e1 nr q1 nn nl du nO nT wm wb ik kt kl hh pg dl er ra ((itS dl er ra nd st bo ck fa (i + 1)).1) ((itS dl er ra nd st bo ck fa (i + 1)).2) (itT dl er ra nd st bo ck fa ft (i + 1)) nw u_1 tc tr tf tt kc kr ke kd kf kg) := hD
              refine lv_aload_n hx hb dX4_go_46 rfl (lv_at hl 0 rfl) ?_
              refine lv_dup hx hb dX4_go_47 rfl ?_
              refine va_get (D := D) (ci := 4) (v := .int (iI t1)) (C := RX4) (T := TX4) (N := 39) hx hb hts iX4 hown hK.1 hP 0 rfl rfl 12 (by decide) (hts (.fieldLink RX4 122 "CloseClocksModel" "ticks" "I") (by decide +kernel)) (fun _ h9 => h9) rfl dX4_go_48 ?_
              refine kx_const (z := 1) hx hb dX4_go_51 rfl ?_
              refine kx_iadd hx hb dX4_go_52 ?_
              refine va_put (D := D) (ci := 4) (v := .int (iI (t1 + 1))) (ty := .int) (C := RX4) (T := TX4) (N := 39) hx hb hts iX4 tyX4 tyX4_ok nmX4 hown hK.1 hP hD hS 0 rfl rfl 12 (by decide) (hts (.fieldLink RX4 122 "CloseClocksModel" "ticks" "I") (by decide +kernel)) (fun _ h9 => h9) rfl (by decide +kernel) rfl rfl (Nat.le_of_ble_eq_true rfl) dX4_go_53 (fun H locs hP hD hS => ?_)
              have hP : va_P D vwCl (mdW cI cZ h m1 m4 m5 m6 m7 m8 m9 m21 m22 m23 m24 m25 m26 m30 m31 m32 m33 m34 m35 pl nd lk st bo (t1 + 1) e1 nr q1 nn nl du nO nT wm wb ik kt kl hh pg dl er ra ((itS dl er ra nd st bo ck fa (i + 1)).1) ((itS dl er ra nd st bo ck fa (i + 1)).2) (itT dl er ra nd st bo ck fa ft (i + 1)) nw u_1 tc tr tf tt kc kr ke kd kf kg) H := hP
              have hD : va_D A (mdW cI cZ h m1 m4 m5 m6 m7 m8 m9 m21 m22 m23 m24 m25 m26 m30 m31 m32 m33 m34 m35 pl nd lk st bo (t1 + 1) e1 nr q1 nn nl du nO nT wm wb ik kt kl hh pg dl er ra ((itS dl er ra nd st bo ck fa (i + 1)).1) ((itS dl er ra nd st bo ck fa (i + 1)).2) (itT dl er ra nd st bo ck fa ft (i + 1)) nw u_1 tc tr tf tt kc kr ke kd kf kg) := hD
              refine lv_aload_n hx hb dX4_go_56 rfl (lv_at hl 0 rfl) ?_
              refine lv_dup hx hb dX4_go_57 rfl ?_
              refine va_get (D := D) (ci := 4) (v := .int (iI e1)) (C := RX4) (T := TX4) (N := 39) hx hb hts iX4 hown hK.1 hP 0 rfl rfl 13 (by decide) (hts (.fieldLink RX4 169 "CloseClocksModel" "ticksEver" "I") (by decide +kernel)) (fun _ h9 => h9) rfl dX4_go_58 ?_
              refine kx_const (z := 1) hx hb dX4_go_61 rfl ?_
              refine kx_iadd hx hb dX4_go_62 ?_
              refine va_put (D := D) (ci := 4) (v := .int (iI (e1 + 1))) (ty := .int) (C := RX4) (T := TX4) (N := 39) hx hb hts iX4 tyX4 tyX4_ok nmX4 hown hK.1 hP hD hS 0 rfl rfl 13 (by decide) (hts (.fieldLink RX4 169 "CloseClocksModel" "ticksEver" "I") (by decide +kernel)) (fun _ h9 => h9) rfl (by decide +kernel) rfl rfl (Nat.le_of_ble_eq_true rfl) dX4_go_63 (fun H locs hP hD hS => ?_)
              have hP : va_P D vwCl (mdW cI cZ h m1 m4 m5 m6 m7 m8 m9 m21 m22 m23 m24 m25 m26 m30 m31 m32 m33 m34 m35 pl nd lk st bo (t1 + 1) (e1 + 1) nr q1 nn nl du nO nT wm wb ik kt kl hh pg dl er ra ((itS dl er ra nd st bo ck fa (i + 1)).1) ((itS dl er ra nd st bo ck fa (i + 1)).2) (itT dl er ra nd st bo ck fa ft (i + 1)) nw u_1 tc tr tf tt kc kr ke kd kf kg) H := hP
              have hD : va_D A (mdW cI cZ h m1 m4 m5 m6 m7 m8 m9 m21 m22 m23 m24 m25 m26 m30 m31 m32 m33 m34 m35 pl nd lk st bo (t1 + 1) (e1 + 1) nr q1 nn nl du nO nT wm wb ik kt kl hh pg dl er ra ((itS dl er ra nd st bo ck fa (i + 1)).1) ((itS dl er ra nd st bo ck fa (i + 1)).2) (itT dl er ra nd st bo ck fa ft (i + 1)) nw u_1 tc tr tf tt kc kr ke kd kf kg) := hD
              refine lv_aload_n hx hb dX4_go_66 rfl (lv_at hl 0 rfl) ?_
              refine lv_aload_n hx hb dX4_go_67 rfl (lv_at hl 0 rfl) ?_
              refine kx_cV (As := []) (rest := [.ref h]) (st1 := [.int (iI (mLo (itS dl er ra nd st bo ck fa (i + 1)).1 dl nd)), .ref h]) (q0 := 0) (ci := 4) ⟨hx, hb, hml, hown, hts⟩ (c_X4_local l D cI cZ h m1 m4 m5 m6 m7 m8 m9 m21 m22 m23 m24 m25 m26 m30 m31 m32 m33 m34 m35 pl nd lk st bo (t1 + 1) (e1 + 1) nr q1 nn nl du nO nT wm wb ik kt kl hh pg dl er ra ((itS dl er ra nd st bo ck fa (i + 1)).1) ((itS dl er ra nd st bo ck fa (i + 1)).2) (itT dl er ra nd st bo ck fa ft (i + 1)) nw u_1 tc tr tf tt kc kr ke kd kf kg (by first | assumption | omega) (by first | assumption | omega) (hcj)) (cwV 0 hts gX4_go_X4_local rfl rfl rfl (by decide +kernel) ⟨Nat.le_of_ble_eq_true rfl, Nat.le_of_ble_eq_true rfl⟩) hK hP rfl rfl rfl hl.1 rfl (Nat.le_of_ble_eq_true rfl) dX4_go_68 ⟨Nat.zero_le _, Nat.zero_le _⟩ rfl ?_
              refine lv_aload_n hx hb dX4_go_71 rfl (lv_at hl 0 rfl) ?_
              refine va_get (D := D) (ci := 4) (v := .int (iI q1)) (C := RX4) (T := TX4) (N := 39) hx hb hts iX4 hown hK.1 hP 0 rfl rfl 15 (by decide) (hts (.fieldLink RX4 125 "CloseClocksModel" "mostLocal" "I") (by decide +kernel)) (fun _ h9 => h9) rfl dX4_go_72 ?_
              refine kx_icmp_le (tgt := 85) hx hb (by omega) (by omega) dX4_go_75 (by decide) (fun h75 => ?_) (fun h75 => ?_)
              · skip
                refine lv_aload_n hx hb dX4_go_85 rfl (lv_at hl 0 rfl) ?_
                refine va_get (D := D) (ci := 4) (v := .int (iI q1)) (C := RX4) (T := TX4) (N := 39) hx hb hts iX4 hown hK.1 hP 0 rfl rfl 15 (by decide) (hts (.fieldLink RX4 125 "CloseClocksModel" "mostLocal" "I") (by decide +kernel)) (fun _ h9 => h9) rfl dX4_go_86 ?_
                refine va_put (D := D) (ci := 4) (v := .int (iI q1)) (ty := .int) (C := RX4) (T := TX4) (N := 39) hx hb hts iX4 tyX4 tyX4_ok nmX4 hown hK.1 hP hD hS 0 rfl rfl 15 (by decide) (hts (.fieldLink RX4 125 "CloseClocksModel" "mostLocal" "I") (by decide +kernel)) (fun _ h9 => h9) rfl (by decide +kernel) rfl rfl (Nat.le_of_ble_eq_true rfl) dX4_go_89 (fun H locs hP hD hS => ?_)
                have hP : va_P D vwCl (mdW cI cZ h m1 m4 m5 m6 m7 m8 m9 m21 m22 m23 m24 m25 m26 m30 m31 m32 m33 m34 m35 pl nd lk st bo (t1 + 1) (e1 + 1) nr q1 nn nl du nO nT wm wb ik kt kl hh pg dl er ra ((itS dl er ra nd st bo ck fa (i + 1)).1) ((itS dl er ra nd st bo ck fa (i + 1)).2) (itT dl er ra nd st bo ck fa ft (i + 1)) nw u_1 tc tr tf tt kc kr ke kd kf kg) H := hP
                have hD : va_D A (mdW cI cZ h m1 m4 m5 m6 m7 m8 m9 m21 m22 m23 m24 m25 m26 m30 m31 m32 m33 m34 m35 pl nd lk st bo (t1 + 1) (e1 + 1) nr q1 nn nl du nO nT wm wb ik kt kl hh pg dl er ra ((itS dl er ra nd st bo ck fa (i + 1)).1) ((itS dl er ra nd st bo ck fa (i + 1)).2) (itT dl er ra nd st bo ck fa ft (i + 1)) nw u_1 tc tr tf tt kc kr ke kd kf kg) := hD
                refine kx_iinc (z := ((i + 1 : Nat) : Int)) (lv' := [(2, .int (iI ((i + 1 : Nat) : Int))), (0, .ref h), (1, .int (iI z))]) hx hb dX4_go_92 hl (k0 := 2) rfl (by omega) (by decide) rfl (fun ls hl => ?_)
                refine lv_goto (tgt := 37) hx hb dX4_go_95 (by decide) ?_
                exact ih37 (i + 1) u_1 (t1 + 1) (e1 + 1) q1 (by first | assumption | omega) (by omega) (by omega) (by rw [itM, ← hq1]; first | (rw [if_pos (by omega)]) | (rw [if_neg (by omega)])) (by first | assumption | omega) (by omega) H locs hP hD hS ls (lv_sub hl [1, 2, 0] rfl)
              · skip
                refine lv_aload_n hx hb dX4_go_78 rfl (lv_at hl 0 rfl) ?_
                refine kx_cV (As := []) (rest := [.ref h]) (st1 := [.int (iI (mLo (itS dl er ra nd st bo ck fa (i + 1)).1 dl nd)), .ref h]) (q0 := 0) (ci := 4) ⟨hx, hb, hml, hown, hts⟩ (c_X4_local l D cI cZ h m1 m4 m5 m6 m7 m8 m9 m21 m22 m23 m24 m25 m26 m30 m31 m32 m33 m34 m35 pl nd lk st bo (t1 + 1) (e1 + 1) nr q1 nn nl du nO nT wm wb ik kt kl hh pg dl er ra ((itS dl er ra nd st bo ck fa (i + 1)).1) ((itS dl er ra nd st bo ck fa (i + 1)).2) (itT dl er ra nd st bo ck fa ft (i + 1)) nw u_1 tc tr tf tt kc kr ke kd kf kg (by first | assumption | omega) (by first | assumption | omega) (hcj)) (cwV 0 hts gX4_go_X4_local rfl rfl rfl (by decide +kernel) ⟨Nat.le_of_ble_eq_true rfl, Nat.le_of_ble_eq_true rfl⟩) hK hP rfl rfl rfl hl.1 rfl (Nat.le_of_ble_eq_true rfl) dX4_go_79 ⟨Nat.zero_le _, Nat.zero_le _⟩ rfl ?_
                refine lv_goto (tgt := 89) hx hb dX4_go_82 (by decide) ?_
                refine va_put (D := D) (ci := 4) (v := .int (iI (mLo (itS dl er ra nd st bo ck fa (i + 1)).1 dl nd))) (ty := .int) (C := RX4) (T := TX4) (N := 39) hx hb hts iX4 tyX4 tyX4_ok nmX4 hown hK.1 hP hD hS 0 rfl rfl 15 (by decide) (hts (.fieldLink RX4 125 "CloseClocksModel" "mostLocal" "I") (by decide +kernel)) (fun _ h9 => h9) rfl (by decide +kernel) rfl rfl (Nat.le_of_ble_eq_true rfl) dX4_go_89 (fun H locs hP hD hS => ?_)
                have hP : va_P D vwCl (mdW cI cZ h m1 m4 m5 m6 m7 m8 m9 m21 m22 m23 m24 m25 m26 m30 m31 m32 m33 m34 m35 pl nd lk st bo (t1 + 1) (e1 + 1) nr (mLo (itS dl er ra nd st bo ck fa (i + 1)).1 dl nd) nn nl du nO nT wm wb ik kt kl hh pg dl er ra ((itS dl er ra nd st bo ck fa (i + 1)).1) ((itS dl er ra nd st bo ck fa (i + 1)).2) (itT dl er ra nd st bo ck fa ft (i + 1)) nw u_1 tc tr tf tt kc kr ke kd kf kg) H := hP
                have hD : va_D A (mdW cI cZ h m1 m4 m5 m6 m7 m8 m9 m21 m22 m23 m24 m25 m26 m30 m31 m32 m33 m34 m35 pl nd lk st bo (t1 + 1) (e1 + 1) nr (mLo (itS dl er ra nd st bo ck fa (i + 1)).1 dl nd) nn nl du nO nT wm wb ik kt kl hh pg dl er ra ((itS dl er ra nd st bo ck fa (i + 1)).1) ((itS dl er ra nd st bo ck fa (i + 1)).2) (itT dl er ra nd st bo ck fa ft (i + 1)) nw u_1 tc tr tf tt kc kr ke kd kf kg) := hD
                refine kx_iinc (z := ((i + 1 : Nat) : Int)) (lv' := [(2, .int (iI ((i + 1 : Nat) : Int))), (0, .ref h), (1, .int (iI z))]) hx hb dX4_go_92 hl (k0 := 2) rfl (by omega) (by decide) rfl (fun ls hl => ?_)
                refine lv_goto (tgt := 37) hx hb dX4_go_95 (by decide) ?_
                exact ih37 (i + 1) u_1 (t1 + 1) (e1 + 1) (mLo (itS dl er ra nd st bo ck fa (i + 1)).1 dl nd) (by first | assumption | omega) (by omega) (by omega) (by rw [itM, ← hq1]; first | (rw [if_pos (by omega)]) | (rw [if_neg (by omega)])) (by first | assumption | omega) (by omega) H locs hP hD hS ls (lv_sub hl [1, 2, 0] rfl)
        exact L37 (z.toNat - 0 + 1) 0 tu ti te ml (by first | assumption | omega) (by omega) (by omega) (rfl) (by first | assumption | omega) (Nat.lt_succ_self _) H locs hP hD hS ls (lv_sub hl [1, 2, 0] rfl)
      · skip
        refine kx_ldc (z := -100000004) hx hb hown (hts (.constant RX4 111 (-100000004)) (by decide +kernel)) dX4_go_32 (by decide) ?_
        refine kx_top (b := (if ¬ (1 ≤ z ∧ z ≤ 100) then -100000003 else if nd = 0 ∨ 9000 < ti + z then -100000004 else mLo (itS dl er ra nd st bo ck fa z.toNat).1 dl nd)) (by (repeat' split) <;> first | rfl | omega | contradiction | (rw [hie])) ?_
        exact hret (tu, ti, te, ml, ck, fa, ft) H locs _ _ (⟨(by (try dsimp only); (repeat' split) <;> first | rfl | omega | contradiction | (rw [hq1, hie]; done) | (rw [hie]; done)), (by (try dsimp only); (repeat' split) <;> first | rfl | omega | contradiction | (rw [hq1, hie]; done) | (rw [hie]; done)), (by (try dsimp only); (repeat' split) <;> first | rfl | omega | contradiction | (rw [hq1, hie]; done) | (rw [hie]; done)), (by (try dsimp only); (repeat' split) <;> first | rfl | omega | contradiction | (rw [hq1, hie]; done) | (rw [hie]; done)), (by (try dsimp only); (repeat' split) <;> first | rfl | omega | contradiction | (rw [hq1, hie]; done) | (rw [hie]; done)), (by (try dsimp only); (repeat' split) <;> first | rfl | omega | contradiction | (rw [hq1, hie]; done) | (rw [hie]; done))⟩) hP hD hS dX4_go_34
  · skip
    refine kx_ldc (z := -100000003) hx hb hown (hts (.constant RX4 79 (-100000003)) (by decide +kernel)) dX4_go_10 (by decide) ?_
    refine kx_top (b := (if ¬ (1 ≤ z ∧ z ≤ 100) then -100000003 else if nd = 0 ∨ 9000 < ti + z then -100000004 else mLo (itS dl er ra nd st bo ck fa z.toNat).1 dl nd)) (by (repeat' split) <;> first | rfl | omega | contradiction | (rw [hie])) ?_
    exact hret (tu, ti, te, ml, ck, fa, ft) H locs _ _ (⟨(by (try dsimp only); (repeat' split) <;> first | rfl | omega | contradiction | (rw [hq1, hie]; done) | (rw [hie]; done)), (by (try dsimp only); (repeat' split) <;> first | rfl | omega | contradiction | (rw [hq1, hie]; done) | (rw [hie]; done)), (by (try dsimp only); (repeat' split) <;> first | rfl | omega | contradiction | (rw [hq1, hie]; done) | (rw [hie]; done)), (by (try dsimp only); (repeat' split) <;> first | rfl | omega | contradiction | (rw [hq1, hie]; done) | (rw [hie]; done)), (by (try dsimp only); (repeat' split) <;> first | rfl | omega | contradiction | (rw [hq1, hie]; done) | (rw [hie]; done)), (by (try dsimp only); (repeat' split) <;> first | rfl | omega | contradiction | (rw [hq1, hie]; done) | (rw [hie]; done))⟩) hP hD hS dX4_go_12
def rm_X4_layWorst : Room := ({ frames := 6, cells := 0, slots := 0, locals := 134 } : Room)
set_option maxHeartbeats 4000000 in
set_option maxRecDepth 100000 in
theorem c_X4_layWorst (l : Launch) (D : va_G) (cI cZ : ClassId) (h m1 m4 m5 m6 m7 m8 m9 m21 m22 m23 m24 m25 m26 m30 m31 m32 m33 m34 m35 : Nat) (pl nd lk st bo ti te nr ml nn nl du nO nT wm wb ik kt kl : Int) (hh : Int64) (pg dl er ra ck fa ft nw tu tc tr tf tt kc kr ke kd kf kg : Nat → Int) (n : Nat) (hn : n ≤ 12) (hnd : 0 ≤ nd ∧ nd ≤ 6) (hdl : ∀ k : Nat, k < 36 → dl k = -100000001 ∨ (0 ≤ dl k ∧ dl k ≤ 3)) (hck4 : ∀ k : Nat, k < 24 → 0 ≤ ck k ∧ ck k ≤ 40000000) (her : ∀ k : Nat, k < 36 → -9 ≤ er k ∧ er k ≤ 9) (hst : 1 ≤ st ∧ st ≤ 500) (hfa : ∀ k : Nat, k < 6 → fa k = 0 ∨ fa k = 1) (hra : ∀ k : Nat, k < 6 → 0 ≤ ra k ∧ ra k ≤ 110) (hbo : 1 ≤ bo ∧ bo ≤ 60) : kWR l yX4_layWorst wsX4_layWorst rm_X4_layWorst D cI cZ [.ref h, .int (iI (n : Int))] (mdW cI cZ h m1 m4 m5 m6 m7 m8 m9 m21 m22 m23 m24 m25 m26 m30 m31 m32 m33 m34 m35 pl nd lk st bo ti te nr ml nn nl du nO nT wm wb ik kt kl hh pg dl er ra ck fa ft nw tu tc tr tf tt kc kr ke kd kf kg) (fun u : (Nat → Int) => none) (fun u : (Nat → Int) => True) (fun u : (Nat → Int) => mdW cI cZ h m1 m4 m5 m6 m7 m8 m9 m21 m22 m23 m24 m25 m26 m30 m31 m32 m33 m34 m35 pl nd lk st bo ti te nr ml nn nl du nO nT ((mW dl er ra nd st bo ck fa n).1) ((mW dl er ra nd st bo ck fa n).2 : Int) ik kt kl hh pg dl er ra ck fa ft nw u ck ra fa ft kc kr ke kd kf kg) 0 0 := by
  refine kx_WRv (cc := cX4_layWorst) (maxL := 4) (by decide) rfl (Nat.le_of_ble_eq_true rfl) ?_
  intro pr en s mi args below meth co Q A hx hb hml hown hts hK hin hA hP hD hS hret ls hl
  have hown : s.vm.findClass RX4 = some mi.cls := hown
  have iX4 : ∀ w ∈ wsX40, w ∈ wsX4_layWorst := by decide +kernel
  have hl : lv_has ls 4 [(0, .ref h), (1, .int (iI (n : Int)))] := hl
  generalize hH0 : s.heap = H0 at hA hP hS hret ⊢
  obtain ⟨H, hH⟩ : ∃ H : Heap, H = H0 := ⟨_, rfl⟩
  obtain ⟨locs, hlocs⟩ : ∃ locs : List Loc, locs = [] := ⟨_, rfl⟩
  have hS : va_S A H0 H locs := by rw [hH, hlocs]; exact hS
  have hP : va_P D vwCl (mdW cI cZ h m1 m4 m5 m6 m7 m8 m9 m21 m22 m23 m24 m25 m26 m30 m31 m32 m33 m34 m35 pl nd lk st bo ti te nr ml nn nl du nO nT wm wb ik kt kl hh pg dl er ra ck fa ft nw tu tc tr tf tt kc kr ke kd kf kg) H := by rw [hH]; exact hP
  suffices hgo : W pr l en rm_X4_layWorst s mi args below meth co H locs 0 0 Q (F0 mi 0 ls []) by rw [hH, hlocs] at hgo; exact hgo
  clear hH hlocs
  obtain ⟨N2, hN2⟩ : ∃ N2 : Nat, N2 = 2 ^ nd.toNat := ⟨_, rfl⟩
  have hN2le : N2 ≤ 64 := by rw [hN2]; exact Nat.le_trans (Nat.pow_le_pow_right (by omega) (show nd.toNat ≤ 6 by omega)) (by decide)
  refine lv_aload_n hx hb dX4_layWorst_0 rfl (lv_at hl 0 rfl) ?_
  refine kx_ldc (z := -100000001) hx hb hown (hts (.constant RX4 96 (-100000001)) (by decide +kernel)) dX4_layWorst_1 (by decide) ?_
  refine va_put (D := D) (ci := 4) (v := .int (iI (-100000001))) (ty := .int) (C := RX4) (T := TX4) (N := 39) hx hb hts iX4 tyX4 tyX4_ok nmX4 hown hK.1 hP hD hS 0 rfl rfl 27 (by decide) (hts (.fieldLink RX4 193 "CloseClocksModel" "worstMost" "I") (by decide +kernel)) (fun _ h9 => h9) rfl (by decide +kernel) rfl rfl (Nat.le_of_ble_eq_true rfl) dX4_layWorst_3 (fun H locs hP hD hS => ?_)
  have hP : va_P D vwCl (mdW cI cZ h m1 m4 m5 m6 m7 m8 m9 m21 m22 m23 m24 m25 m26 m30 m31 m32 m33 m34 m35 pl nd lk st bo ti te nr ml nn nl du nO nT (-100000001) wb ik kt kl hh pg dl er ra ck fa ft nw tu tc tr tf tt kc kr ke kd kf kg) H := hP
  have hD : va_D A (mdW cI cZ h m1 m4 m5 m6 m7 m8 m9 m21 m22 m23 m24 m25 m26 m30 m31 m32 m33 m34 m35 pl nd lk st bo ti te nr ml nn nl du nO nT (-100000001) wb ik kt kl hh pg dl er ra ck fa ft nw tu tc tr tf tt kc kr ke kd kf kg) := hD
  refine lv_aload_n hx hb dX4_layWorst_6 rfl (lv_at hl 0 rfl) ?_
  refine kx_const (z := 0) hx hb dX4_layWorst_7 rfl ?_
  refine va_put (D := D) (ci := 4) (v := .int (iI 0)) (ty := .int) (C := RX4) (T := TX4) (N := 39) hx hb hts iX4 tyX4 tyX4_ok nmX4 hown hK.1 hP hD hS 0 rfl rfl 28 (by decide) (hts (.fieldLink RX4 196 "CloseClocksModel" "worstBy" "I") (by decide +kernel)) (fun _ h9 => h9) rfl (by decide +kernel) rfl rfl (Nat.le_of_ble_eq_true rfl) dX4_layWorst_8 (fun H locs hP hD hS => ?_)
  have hP : va_P D vwCl (mdW cI cZ h m1 m4 m5 m6 m7 m8 m9 m21 m22 m23 m24 m25 m26 m30 m31 m32 m33 m34 m35 pl nd lk st bo ti te nr ml nn nl du nO nT (-100000001) 0 ik kt kl hh pg dl er ra ck fa ft nw tu tc tr tf tt kc kr ke kd kf kg) H := hP
  have hD : va_D A (mdW cI cZ h m1 m4 m5 m6 m7 m8 m9 m21 m22 m23 m24 m25 m26 m30 m31 m32 m33 m34 m35 pl nd lk st bo ti te nr ml nn nl du nO nT (-100000001) 0 ik kt kl hh pg dl er ra ck fa ft nw tu tc tr tf tt kc kr ke kd kf kg) := hD
  refine lv_aload_n hx hb dX4_layWorst_11 rfl (lv_at hl 0 rfl) ?_
  refine kx_cVW (As := []) (rest := []) (wr := []) (q0 := 0) (ci := 4) ⟨hx, hb, hml, hown, hts⟩ (c_X4_setAside l D cI cZ h m1 m4 m5 m6 m7 m8 m9 m21 m22 m23 m24 m25 m26 m30 m31 m32 m33 m34 m35 pl nd lk st bo ti te nr ml nn nl du nO nT (-100000001) 0 ik kt kl hh pg dl er ra ck fa ft nw tu tc tr tf tt kc kr ke kd kf kg (by first | assumption | omega)) (cwV 0 hts gX4_layWorst_X4_setAside rfl rfl rfl (by decide +kernel) ⟨Nat.le_of_ble_eq_true rfl, Nat.le_of_ble_eq_true rfl⟩) hK hP hD hS hA [0, 1, 2, 3, 4, 5, 6, 7, 8, 9, 10, 11, 12, 13, 14, 15, 16, 17, 18, 19] [] rfl rfl (by decide) (by decide) (by decide) rfl rfl rfl hl.1 rfl (Nat.le_of_ble_eq_true rfl) dX4_layWorst_12 ⟨Nat.le_of_ble_eq_true rfl, Nat.le_of_ble_eq_true rfl⟩ (fun u H locs hq hP hD hS => ?_)
  have hP : va_P D vwCl (mdW cI cZ h m1 m4 m5 m6 m7 m8 m9 m21 m22 m23 m24 m25 m26 m30 m31 m32 m33 m34 m35 pl nd lk st bo ti te nr ml nn nl du nO nT (-100000001) 0 ik kt kl hh pg dl er ra ck fa ft nw tu ck ra fa ft kc kr ke kd kf kg) H := hP.sub [0, 1, 2, 3, 4, 5, 6, 7, 8, 9, 10, 11, 12, 13, 14, 15, 16, 17, 18, 19] rfl
  have hD : va_D A (mdW cI cZ h m1 m4 m5 m6 m7 m8 m9 m21 m22 m23 m24 m25 m26 m30 m31 m32 m33 m34 m35 pl nd lk st bo ti te nr ml nn nl du nO nT (-100000001) 0 ik kt kl hh pg dl er ra ck fa ft nw tu ck ra fa ft kc kr ke kd kf kg) := hD.sub [0, 1, 2, 3, 4, 5, 6, 7, 8, 9, 10, 11, 12, 13, 14, 15, 16, 17, 18, 19] (by decide) rfl
  refine W.eq (g2 := F0 mi 15 ls []) rfl ?_
  refine kx_const (z := 0) hx hb dX4_layWorst_15 rfl ?_
  refine lv_istore_n (lv' := [(2, .int (iI 0)), (0, .ref h), (1, .int (iI (n : Int)))]) hx hb dX4_layWorst_16 rfl hl (by decide) rfl (fun ls hl => ?_)
  have L17 : ∀ (fu : Nat) (b : Nat) (gu : Nat → Int) (w1 : Int) (w2 : Int), (b ≤ N2) → (w1 = (mWo dl er ra nd st bo ck fa n b).1) → (w2 = ((mWo dl er ra nd st bo ck fa n b).2 : Int)) → (-100000001 ≤ w1 ∧ w1 ≤ 50000000) → N2 - b < fu → ∀ (H : Heap) (locs : List Loc), va_P D vwCl (mdW cI cZ h m1 m4 m5 m6 m7 m8 m9 m21 m22 m23 m24 m25 m26 m30 m31 m32 m33 m34 m35 pl nd lk st bo ti te nr ml nn nl du nO nT w1 w2 ik kt kl hh pg dl er ra ck fa ft nw gu ck ra fa ft kc kr ke kd kf kg) H → va_D A (mdW cI cZ h m1 m4 m5 m6 m7 m8 m9 m21 m22 m23 m24 m25 m26 m30 m31 m32 m33 m34 m35 pl nd lk st bo ti te nr ml nn nl du nO nT w1 w2 ik kt kl hh pg dl er ra ck fa ft nw gu ck ra fa ft kc kr ke kd kf kg) → va_S A H0 H locs → ∀ ls : Array Slot, lv_has ls 4 [(0, .ref h), (1, .int (iI (n : Int))), (2, .int (iI (b : Int)))] → W pr l en rm_X4_layWorst s mi args below meth co H locs 0 0 Q (F0 mi 17 ls []) := by
    intro fu
    induction fu with
    | zero =>
      intro b gu w1 w2 hb9 hw1 hw2 hwr hfu
      exact absurd hfu (Nat.not_lt_zero _)
    | succ fu ih17 =>
      intro b gu w1 w2 hb9 hw1 hw2 hwr hfu H locs hP hD hS ls hl
      refine lv_iload_n hx hb dX4_layWorst_17 rfl (lv_at hl 2 rfl) ?_
      refine kx_const (z := 1) hx hb dX4_layWorst_18 rfl ?_
      refine lv_aload_n hx hb dX4_layWorst_19 rfl (lv_at hl 0 rfl) ?_
      refine va_get (D := D) (ci := 4) (v := .int (iI nd)) (C := RX4) (T := TX4) (N := 39) hx hb hts iX4 hown hK.1 hP 0 rfl rfl 2 (by decide) (hts (.fieldLink RX4 112 "CloseClocksModel" "nodes" "I") (by decide +kernel)) (fun _ h9 => h9) rfl dX4_layWorst_20 ?_
      refine kx_top (b := ((nd.toNat : Nat) : Int)) (by omega) ?_
      refine kx_ishl (n := 1) (w := (nd.toNat)) hx hb (by omega) (by rw [Nat.one_mul, ← hN2]; omega) dX4_layWorst_23 ?_
      refine kx_top (b := (N2 : Int)) (by rw [Nat.one_mul, hN2]) ?_
      refine kx_icmp_ge (tgt := 153) hx hb (by omega) (by omega) dX4_layWorst_24 (by decide) (fun h24 => ?_) (fun h24 => ?_)
      · skip
        have hbe : b = 2 ^ nd.toNat := by omega
        have hP : va_P D vwCl (mdW cI cZ h m1 m4 m5 m6 m7 m8 m9 m21 m22 m23 m24 m25 m26 m30 m31 m32 m33 m34 m35 pl nd lk st bo ti te nr ml nn nl du nO nT ((mW dl er ra nd st bo ck fa n).1) ((mW dl er ra nd st bo ck fa n).2 : Int) ik kt kl hh pg dl er ra ck fa ft nw gu ck ra fa ft kc kr ke kd kf kg) H := by rw [hw1, hw2, hbe] at hP; exact hP
        have hD : va_D A (mdW cI cZ h m1 m4 m5 m6 m7 m8 m9 m21 m22 m23 m24 m25 m26 m30 m31 m32 m33 m34 m35 pl nd lk st bo ti te nr ml nn nl du nO nT ((mW dl er ra nd st bo ck fa n).1) ((mW dl er ra nd st bo ck fa n).2 : Int) ik kt kl hh pg dl er ra ck fa ft nw gu ck ra fa ft kc kr ke kd kf kg) := by rw [hw1, hw2, hbe] at hD; exact hD
        exact hret gu H locs _ _ (trivial) hP hD hS dX4_layWorst_153
      · skip
        refine kx_const (z := 0) hx hb dX4_layWorst_27 rfl ?_
        refine lv_istore_n (lv' := [(3, .int (iI 0)), (0, .ref h), (1, .int (iI (n : Int))), (2, .int (iI (b : Int)))]) hx hb dX4_layWorst_28 rfl hl (by decide) rfl (fun ls hl => ?_)
        have L29 : ∀ (fu : Nat) (v : Nat) (gr : Nat → Int), ((v : Int) ≤ nd) → (∀ k : Nat, k < 6 → gr k = if k < v then (fun q => if b.testBit q = true then 110 else 90) k else ra k) → nd.toNat - v < fu → ∀ (H : Heap) (locs : List Loc), va_P D vwCl (mdW cI cZ h m1 m4 m5 m6 m7 m8 m9 m21 m22 m23 m24 m25 m26 m30 m31 m32 m33 m34 m35 pl nd lk st bo ti te nr ml nn nl du nO nT w1 w2 ik kt kl hh pg dl er gr ck fa ft nw gu ck ra fa ft kc kr ke kd kf kg) H → va_D A (mdW cI cZ h m1 m4 m5 m6 m7 m8 m9 m21 m22 m23 m24 m25 m26 m30 m31 m32 m33 m34 m35 pl nd lk st bo ti te nr ml nn nl du nO nT w1 w2 ik kt kl hh pg dl er gr ck fa ft nw gu ck ra fa ft kc kr ke kd kf kg) → va_S A H0 H locs → ∀ ls : Array Slot, lv_has ls 4 [(0, .ref h), (1, .int (iI (n : Int))), (2, .int (iI (b : Int))), (3, .int (iI (v : Int)))] → W pr l en rm_X4_layWorst s mi args below meth co H locs 0 0 Q (F0 mi 29 ls []) := by
          intro fu
          induction fu with
          | zero =>
            intro v gr hv hgr hfu
            exact absurd hfu (Nat.not_lt_zero _)
          | succ fu ih29 =>
            intro v gr hv hgr hfu H locs hP hD hS ls hl
            refine lv_iload_n hx hb dX4_layWorst_29 rfl (lv_at hl 3 rfl) ?_
            refine lv_aload_n hx hb dX4_layWorst_30 rfl (lv_at hl 0 rfl) ?_
            refine va_get (D := D) (ci := 4) (v := .int (iI nd)) (C := RX4) (T := TX4) (N := 39) hx hb hts iX4 hown hK.1 hP 0 rfl rfl 2 (by decide) (hts (.fieldLink RX4 112 "CloseClocksModel" "nodes" "I") (by decide +kernel)) (fun _ h9 => h9) rfl dX4_layWorst_31 ?_
            refine kx_icmp_ge (tgt := 65) hx hb (by omega) (by omega) dX4_layWorst_34 (by decide) (fun h34 => ?_) (fun h34 => ?_)
            · skip
              obtain ⟨hP, hD⟩ := kx_arr (g' := (rW ra nd b)) hP hD 4 rfl (fun k hk => by rw [hgr k hk, show v = nd.toNat by omega]; rfl)
              have hP : va_P D vwCl (mdW cI cZ h m1 m4 m5 m6 m7 m8 m9 m21 m22 m23 m24 m25 m26 m30 m31 m32 m33 m34 m35 pl nd lk st bo ti te nr ml nn nl du nO nT w1 w2 ik kt kl hh pg dl er (rW ra nd b) ck fa ft nw gu ck ra fa ft kc kr ke kd kf kg) H := hP
              have hD : va_D A (mdW cI cZ h m1 m4 m5 m6 m7 m8 m9 m21 m22 m23 m24 m25 m26 m30 m31 m32 m33 m34 m35 pl nd lk st bo ti te nr ml nn nl du nO nT w1 w2 ik kt kl hh pg dl er (rW ra nd b) ck fa ft nw gu ck ra fa ft kc kr ke kd kf kg) := hD
              refine kx_const (z := 0) hx hb dX4_layWorst_65 rfl ?_
              refine lv_istore_n (lv' := [(3, .int (iI 0)), (0, .ref h), (1, .int (iI (n : Int))), (2, .int (iI (b : Int)))]) hx hb dX4_layWorst_66 rfl hl (by decide) rfl (fun ls hl => ?_)
              have L67 : ∀ (fu : Nat) (i : Nat) (gv : Nat → Int) (gt : Nat → Int), (i ≤ n) → n - i < fu → ∀ (H : Heap) (locs : List Loc), va_P D vwCl (mdW cI cZ h m1 m4 m5 m6 m7 m8 m9 m21 m22 m23 m24 m25 m26 m30 m31 m32 m33 m34 m35 pl nd lk st bo ti te nr ml nn nl du nO nT w1 w2 ik kt kl hh pg dl er (rW ra nd b) ((itS dl er (rW ra nd b) nd st bo ck fa i).1) ((itS dl er (rW ra nd b) nd st bo ck fa i).2) gt nw gv ck ra fa ft kc kr ke kd kf kg) H → va_D A (mdW cI cZ h m1 m4 m5 m6 m7 m8 m9 m21 m22 m23 m24 m25 m26 m30 m31 m32 m33 m34 m35 pl nd lk st bo ti te nr ml nn nl du nO nT w1 w2 ik kt kl hh pg dl er (rW ra nd b) ((itS dl er (rW ra nd b) nd st bo ck fa i).1) ((itS dl er (rW ra nd b) nd st bo ck fa i).2) gt nw gv ck ra fa ft kc kr ke kd kf kg) → va_S A H0 H locs → ∀ ls : Array Slot, lv_has ls 4 [(0, .ref h), (1, .int (iI (n : Int))), (2, .int (iI (b : Int))), (3, .int (iI (i : Int)))] → W pr l en rm_X4_layWorst s mi args below meth co H locs 0 0 Q (F0 mi 67 ls []) := by
                intro fu
                induction fu with
                | zero =>
                  intro i gv gt hi hfu
                  exact absurd hfu (Nat.not_lt_zero _)
                | succ fu ih67 =>
                  intro i gv gt hi hfu H locs hP hD hS ls hl
                  have hbi := itS_bd (dl := dl) (er := er) (nd := nd) (st := st) hck4 hfa (rW_bd (nd := nd) (b := b) hra) hbo i
                  have hci : ∀ k : Nat, k < 24 → 0 ≤ (itS dl er (rW ra nd b) nd st bo ck fa i).1 k ∧ (itS dl er (rW ra nd b) nd st bo ck fa i).1 k ≤ 50000000 := fun k hk => by have := hbi.1 k hk; omega
                  refine lv_iload_n hx hb dX4_layWorst_67 rfl (lv_at hl 3 rfl) ?_
                  refine lv_iload_n hx hb dX4_layWorst_68 rfl (lv_at hl 1 rfl) ?_
                  refine kx_icmp_ge (tgt := 82) hx hb (by omega) (by omega) dX4_layWorst_69 (by decide) (fun h69 => ?_) (fun h69 => ?_)
                  · skip
                    have hie : i = n := by omega
                    have hlw := mLo_rng (dl := dl) hci hnd
                    have hWl : mLo (itS dl er (rW ra nd b) nd st bo ck fa i).1 dl nd = mWl dl er ra nd st bo ck fa n b := by rw [hie]; rfl
                    have J107_1 : ∀ (x : Int), ((x = 1 ∧ (w1 = -100000001 ∨ w1 < mLo (itS dl er (rW ra nd b) nd st bo ck fa i).1 dl nd)) ∨ (x = 0 ∧ ¬ (w1 = -100000001 ∨ w1 < mLo (itS dl er (rW ra nd b) nd st bo ck fa i).1 dl nd))) → ∀ (H : Heap) (locs : List Loc), va_P D vwCl (mdW cI cZ h m1 m4 m5 m6 m7 m8 m9 m21 m22 m23 m24 m25 m26 m30 m31 m32 m33 m34 m35 pl nd lk st bo ti te nr ml nn nl du nO nT w1 w2 ik kt kl hh pg dl er (rW ra nd b) ((itS dl er (rW ra nd b) nd st bo ck fa i).1) ((itS dl er (rW ra nd b) nd st bo ck fa i).2) gt nw gv ck ra fa ft kc kr ke kd kf kg) H → va_D A (mdW cI cZ h m1 m4 m5 m6 m7 m8 m9 m21 m22 m23 m24 m25 m26 m30 m31 m32 m33 m34 m35 pl nd lk st bo ti te nr ml nn nl du nO nT w1 w2 ik kt kl hh pg dl er (rW ra nd b) ((itS dl er (rW ra nd b) nd st bo ck fa i).1) ((itS dl er (rW ra nd b) nd st bo ck fa i).2) gt nw gv ck ra fa ft kc kr ke kd kf kg) → va_S A H0 H locs → ∀ ls : Array Slot, lv_has ls 4 [(0, .ref h), (1, .int (iI (n : Int))), (2, .int (iI (b : Int)))] → W pr l en rm_X4_layWorst s mi args below meth co H locs 0 0 Q (F0 mi 107 ls [.int (iI x)]) := by
                      intro x hx9 H locs hP hD hS ls hl
                      refine lv_istore_n (lv' := [(3, .int (iI x)), (0, .ref h), (1, .int (iI (n : Int))), (2, .int (iI (b : Int)))]) hx hb dX4_layWorst_107 rfl hl (by decide) rfl (fun ls hl => ?_)
                      refine lv_aload_n hx hb dX4_layWorst_108 rfl (lv_at hl 1 rfl) ?_
                      refine lv_iload_n hx hb dX4_layWorst_109 rfl (lv_at hl 0 rfl) ?_
                      refine kx_if_eq (tgt := 120) hx hb (by omega) dX4_layWorst_110 (by decide) (fun h110 => ?_) (fun h110 => ?_)
                      · skip
                        refine lv_aload_n hx hb dX4_layWorst_120 rfl (lv_at hl 1 rfl) ?_
                        refine va_get (D := D) (ci := 4) (v := .int (iI w1)) (C := RX4) (T := TX4) (N := 39) hx hb hts iX4 hown hK.1 hP 0 rfl rfl 27 (by decide) (hts (.fieldLink RX4 193 "CloseClocksModel" "worstMost" "I") (by decide +kernel)) (fun _ h9 => h9) rfl dX4_layWorst_121 ?_
                        refine va_put (D := D) (ci := 4) (v := .int (iI w1)) (ty := .int) (C := RX4) (T := TX4) (N := 39) hx hb hts iX4 tyX4 tyX4_ok nmX4 hown hK.1 hP hD hS 0 rfl rfl 27 (by decide) (hts (.fieldLink RX4 193 "CloseClocksModel" "worstMost" "I") (by decide +kernel)) (fun _ h9 => h9) rfl (by decide +kernel) rfl rfl (Nat.le_of_ble_eq_true rfl) dX4_layWorst_124 (fun H locs hP hD hS => ?_)
                        have hP : va_P D vwCl (mdW cI cZ h m1 m4 m5 m6 m7 m8 m9 m21 m22 m23 m24 m25 m26 m30 m31 m32 m33 m34 m35 pl nd lk st bo ti te nr ml nn nl du nO nT w1 w2 ik kt kl hh pg dl er (rW ra nd b) ((itS dl er (rW ra nd b) nd st bo ck fa i).1) ((itS dl er (rW ra nd b) nd st bo ck fa i).2) gt nw gv ck ra fa ft kc kr ke kd kf kg) H := hP
                        have hD : va_D A (mdW cI cZ h m1 m4 m5 m6 m7 m8 m9 m21 m22 m23 m24 m25 m26 m30 m31 m32 m33 m34 m35 pl nd lk st bo ti te nr ml nn nl du nO nT w1 w2 ik kt kl hh pg dl er (rW ra nd b) ((itS dl er (rW ra nd b) nd st bo ck fa i).1) ((itS dl er (rW ra nd b) nd st bo ck fa i).2) gt nw gv ck ra fa ft kc kr ke kd kf kg) := hD
                        refine lv_aload_n hx hb dX4_layWorst_127 rfl (lv_at hl 1 rfl) ?_
                        refine lv_iload_n hx hb dX4_layWorst_128 rfl (lv_at hl 0 rfl) ?_
                        refine kx_if_eq (tgt := 136) hx hb (by omega) dX4_layWorst_129 (by decide) (fun h129 => ?_) (fun h129 => ?_)
                        · skip
                          refine lv_aload_n hx hb dX4_layWorst_136 rfl (lv_at hl 1 rfl) ?_
                          refine va_get (D := D) (ci := 4) (v := .int (iI w2)) (C := RX4) (T := TX4) (N := 39) hx hb hts iX4 hown hK.1 hP 0 rfl rfl 28 (by decide) (hts (.fieldLink RX4 196 "CloseClocksModel" "worstBy" "I") (by decide +kernel)) (fun _ h9 => h9) rfl dX4_layWorst_137 ?_
                          refine va_put (D := D) (ci := 4) (v := .int (iI w2)) (ty := .int) (C := RX4) (T := TX4) (N := 39) hx hb hts iX4 tyX4 tyX4_ok nmX4 hown hK.1 hP hD hS 0 rfl rfl 28 (by decide) (hts (.fieldLink RX4 196 "CloseClocksModel" "worstBy" "I") (by decide +kernel)) (fun _ h9 => h9) rfl (by decide +kernel) rfl rfl (Nat.le_of_ble_eq_true rfl) dX4_layWorst_140 (fun H locs hP hD hS => ?_)
                          have hP : va_P D vwCl (mdW cI cZ h m1 m4 m5 m6 m7 m8 m9 m21 m22 m23 m24 m25 m26 m30 m31 m32 m33 m34 m35 pl nd lk st bo ti te nr ml nn nl du nO nT w1 w2 ik kt kl hh pg dl er (rW ra nd b) ((itS dl er (rW ra nd b) nd st bo ck fa i).1) ((itS dl er (rW ra nd b) nd st bo ck fa i).2) gt nw gv ck ra fa ft kc kr ke kd kf kg) H := hP
                          have hD : va_D A (mdW cI cZ h m1 m4 m5 m6 m7 m8 m9 m21 m22 m23 m24 m25 m26 m30 m31 m32 m33 m34 m35 pl nd lk st bo ti te nr ml nn nl du nO nT w1 w2 ik kt kl hh pg dl er (rW ra nd b) ((itS dl er (rW ra nd b) nd st bo ck fa i).1) ((itS dl er (rW ra nd b) nd st bo ck fa i).2) gt nw gv ck ra fa ft kc kr ke kd kf kg) := hD
                          refine lv_aload_n hx hb dX4_layWorst_143 rfl (lv_at hl 1 rfl) ?_
                          refine kx_cVW (As := []) (rest := []) (wr := []) (q0 := 0) (ci := 4) ⟨hx, hb, hml, hown, hts⟩ (c_X4_setBack l D cI cZ h m1 m4 m5 m6 m7 m8 m9 m21 m22 m23 m24 m25 m26 m30 m31 m32 m33 m34 m35 pl nd lk st bo ti te nr ml nn nl du nO nT w1 w2 ik kt kl hh pg dl er (rW ra nd b) ((itS dl er (rW ra nd b) nd st bo ck fa i).1) ((itS dl er (rW ra nd b) nd st bo ck fa i).2) gt nw gv ck ra fa ft kc kr ke kd kf kg (hfa)) (cwV 0 hts gX4_layWorst_X4_setBack rfl rfl rfl (by decide +kernel) ⟨Nat.le_of_ble_eq_true rfl, Nat.le_of_ble_eq_true rfl⟩) hK hP hD hS hA [0, 1, 2, 3, 4, 5, 6, 7, 8, 9, 10, 11, 12, 13, 14, 15, 16, 17, 18, 19] [] rfl rfl (by decide) (by decide) (by decide) rfl rfl rfl hl.1 rfl (Nat.le_of_ble_eq_true rfl) dX4_layWorst_144 ⟨Nat.le_of_ble_eq_true rfl, Nat.le_of_ble_eq_true rfl⟩ (fun u H locs hq hP hD hS => ?_)
                          have hP : va_P D vwCl (mdW cI cZ h m1 m4 m5 m6 m7 m8 m9 m21 m22 m23 m24 m25 m26 m30 m31 m32 m33 m34 m35 pl nd lk st bo ti te nr ml nn nl du nO nT w1 w2 ik kt kl hh pg dl er ra ck fa ft nw gv ck ra fa ft kc kr ke kd kf kg) H := hP.sub [0, 1, 2, 3, 4, 5, 6, 7, 8, 9, 10, 11, 12, 13, 14, 15, 16, 17, 18, 19] rfl
                          have hD : va_D A (mdW cI cZ h m1 m4 m5 m6 m7 m8 m9 m21 m22 m23 m24 m25 m26 m30 m31 m32 m33 m34 m35 pl nd lk st bo ti te nr ml nn nl du nO nT w1 w2 ik kt kl hh pg dl er ra ck fa ft nw gv ck ra fa ft kc kr ke kd kf kg) := hD.sub [0, 1, 2, 3, 4, 5, 6, 7, 8, 9, 10, 11, 12, 13, 14, 15, 16, 17, 18, 19] (by decide) rfl
                          refine W.eq (g2 := F0 mi 147 ls []) rfl ?_
                          refine kx_iinc (z := ((b + 1 : Nat) : Int)) (lv' := [(2, .int (iI ((b + 1 : Nat) : Int))), (3, .int (iI x)), (0, .ref h), (1, .int (iI (n : Int)))]) hx hb dX4_layWorst_147 hl (k0 := 3) rfl (by omega) (by decide) rfl (fun ls hl => ?_)
                          refine lv_goto (tgt := 17) hx hb dX4_layWorst_150 (by decide) ?_
                          exact ih17 (b + 1) gv w1 w2 (by first | assumption | omega) (by rw [mWo]; first | (exfalso; omega) | (rw [if_pos (by omega)]; exact hWl) | (rw [if_neg (by omega)]; exact hw1)) (by rw [mWo]; first | (exfalso; omega) | (rw [if_pos (by omega)]; done) | (rw [if_pos (by omega)]; rfl) | (rw [if_neg (by omega)]; exact hw2)) (by first | assumption | omega) (by omega) H locs hP hD hS ls (lv_sub hl [2, 3, 0] rfl)
                        · skip
                          refine lv_iload_n hx hb dX4_layWorst_132 rfl (lv_at hl 3 rfl) ?_
                          refine lv_goto (tgt := 140) hx hb dX4_layWorst_133 (by decide) ?_
                          refine va_put (D := D) (ci := 4) (v := .int (iI (b : Int))) (ty := .int) (C := RX4) (T := TX4) (N := 39) hx hb hts iX4 tyX4 tyX4_ok nmX4 hown hK.1 hP hD hS 0 rfl rfl 28 (by decide) (hts (.fieldLink RX4 196 "CloseClocksModel" "worstBy" "I") (by decide +kernel)) (fun _ h9 => h9) rfl (by decide +kernel) rfl rfl (Nat.le_of_ble_eq_true rfl) dX4_layWorst_140 (fun H locs hP hD hS => ?_)
                          have hP : va_P D vwCl (mdW cI cZ h m1 m4 m5 m6 m7 m8 m9 m21 m22 m23 m24 m25 m26 m30 m31 m32 m33 m34 m35 pl nd lk st bo ti te nr ml nn nl du nO nT w1 (b : Int) ik kt kl hh pg dl er (rW ra nd b) ((itS dl er (rW ra nd b) nd st bo ck fa i).1) ((itS dl er (rW ra nd b) nd st bo ck fa i).2) gt nw gv ck ra fa ft kc kr ke kd kf kg) H := hP
                          have hD : va_D A (mdW cI cZ h m1 m4 m5 m6 m7 m8 m9 m21 m22 m23 m24 m25 m26 m30 m31 m32 m33 m34 m35 pl nd lk st bo ti te nr ml nn nl du nO nT w1 (b : Int) ik kt kl hh pg dl er (rW ra nd b) ((itS dl er (rW ra nd b) nd st bo ck fa i).1) ((itS dl er (rW ra nd b) nd st bo ck fa i).2) gt nw gv ck ra fa ft kc kr ke kd kf kg) := hD
                          refine lv_aload_n hx hb dX4_layWorst_143 rfl (lv_at hl 1 rfl) ?_
                          refine kx_cVW (As := []) (rest := []) (wr := []) (q0 := 0) (ci := 4) ⟨hx, hb, hml, hown, hts⟩ (c_X4_setBack l D cI cZ h m1 m4 m5 m6 m7 m8 m9 m21 m22 m23 m24 m25 m26 m30 m31 m32 m33 m34 m35 pl nd lk st bo ti te nr ml nn nl du nO nT w1 (b : Int) ik kt kl hh pg dl er (rW ra nd b) ((itS dl er (rW ra nd b) nd st bo ck fa i).1) ((itS dl er (rW ra nd b) nd st bo ck fa i).2) gt nw gv ck ra fa ft kc kr ke kd kf kg (hfa)) (cwV 0 hts gX4_layWorst_X4_setBack rfl rfl rfl (by decide +kernel) ⟨Nat.le_of_ble_eq_true rfl, Nat.le_of_ble_eq_true rfl⟩) hK hP hD hS hA [0, 1, 2, 3, 4, 5, 6, 7, 8, 9, 10, 11, 12, 13, 14, 15, 16, 17, 18, 19] [] rfl rfl (by decide) (by decide) (by decide) rfl rfl rfl hl.1 rfl (Nat.le_of_ble_eq_true rfl) dX4_layWorst_144 ⟨Nat.le_of_ble_eq_true rfl, Nat.le_of_ble_eq_true rfl⟩ (fun u H locs hq hP hD hS => ?_)
                          have hP : va_P D vwCl (mdW cI cZ h m1 m4 m5 m6 m7 m8 m9 m21 m22 m23 m24 m25 m26 m30 m31 m32 m33 m34 m35 pl nd lk st bo ti te nr ml nn nl du nO nT w1 (b : Int) ik kt kl hh pg dl er ra ck fa ft nw gv ck ra fa ft kc kr ke kd kf kg) H := hP.sub [0, 1, 2, 3, 4, 5, 6, 7, 8, 9, 10, 11, 12, 13, 14, 15, 16, 17, 18, 19] rfl
                          have hD : va_D A (mdW cI cZ h m1 m4 m5 m6 m7 m8 m9 m21 m22 m23 m24 m25 m26 m30 m31 m32 m33 m34 m35 pl nd lk st bo ti te nr ml nn nl du nO nT w1 (b : Int) ik kt kl hh pg dl er ra ck fa ft nw gv ck ra fa ft kc kr ke kd kf kg) := hD.sub [0, 1, 2, 3, 4, 5, 6, 7, 8, 9, 10, 11, 12, 13, 14, 15, 16, 17, 18, 19] (by decide) rfl
                          refine W.eq (g2 := F0 mi 147 ls []) rfl ?_
                          refine kx_iinc (z := ((b + 1 : Nat) : Int)) (lv' := [(2, .int (iI ((b + 1 : Nat) : Int))), (3, .int (iI x)), (0, .ref h), (1, .int (iI (n : Int)))]) hx hb dX4_layWorst_147 hl (k0 := 3) rfl (by omega) (by decide) rfl (fun ls hl => ?_)
                          refine lv_goto (tgt := 17) hx hb dX4_layWorst_150 (by decide) ?_
                          exact ih17 (b + 1) gv w1 (b : Int) (by first | assumption | omega) (by rw [mWo]; first | (exfalso; omega) | (rw [if_pos (by omega)]; exact hWl) | (rw [if_neg (by omega)]; exact hw1)) (by rw [mWo]; first | (exfalso; omega) | (rw [if_pos (by omega)]; done) | (rw [if_pos (by omega)]; rfl) | (rw [if_neg (by omega)]; exact hw2)) (by first | assumption | omega) (by omega) H locs hP hD hS ls (lv_sub hl [2, 3, 0] rfl)
                      · skip
                        refine lv_aload_n hx hb dX4_layWorst_113 rfl (lv_at hl 1 rfl) ?_
                        refine kx_cV (As := []) (rest := [.ref h]) (st1 := [.int (iI (mLo (itS dl er (rW ra nd b) nd st bo ck fa i).1 dl nd)), .ref h]) (q0 := 0) (ci := 4) ⟨hx, hb, hml, hown, hts⟩ (c_X4_local l D cI cZ h m1 m4 m5 m6 m7 m8 m9 m21 m22 m23 m24 m25 m26 m30 m31 m32 m33 m34 m35 pl nd lk st bo ti te nr ml nn nl du nO nT w1 w2 ik kt kl hh pg dl er (rW ra nd b) ((itS dl er (rW ra nd b) nd st bo ck fa i).1) ((itS dl er (rW ra nd b) nd st bo ck fa i).2) gt nw gv ck ra fa ft kc kr ke kd kf kg (by first | assumption | omega) (by first | assumption | omega) (hci)) (cwV 0 hts gX4_layWorst_X4_local rfl rfl rfl (by decide +kernel) ⟨Nat.le_of_ble_eq_true rfl, Nat.le_of_ble_eq_true rfl⟩) hK hP rfl rfl rfl hl.1 rfl (Nat.le_of_ble_eq_true rfl) dX4_layWorst_114 ⟨Nat.zero_le _, Nat.zero_le _⟩ rfl ?_
                        refine lv_goto (tgt := 124) hx hb dX4_layWorst_117 (by decide) ?_
                        refine va_put (D := D) (ci := 4) (v := .int (iI (mLo (itS dl er (rW ra nd b) nd st bo ck fa i).1 dl nd))) (ty := .int) (C := RX4) (T := TX4) (N := 39) hx hb hts iX4 tyX4 tyX4_ok nmX4 hown hK.1 hP hD hS 0 rfl rfl 27 (by decide) (hts (.fieldLink RX4 193 "CloseClocksModel" "worstMost" "I") (by decide +kernel)) (fun _ h9 => h9) rfl (by decide +kernel) rfl rfl (Nat.le_of_ble_eq_true rfl) dX4_layWorst_124 (fun H locs hP hD hS => ?_)
                        have hP : va_P D vwCl (mdW cI cZ h m1 m4 m5 m6 m7 m8 m9 m21 m22 m23 m24 m25 m26 m30 m31 m32 m33 m34 m35 pl nd lk st bo ti te nr ml nn nl du nO nT (mLo (itS dl er (rW ra nd b) nd st bo ck fa i).1 dl nd) w2 ik kt kl hh pg dl er (rW ra nd b) ((itS dl er (rW ra nd b) nd st bo ck fa i).1) ((itS dl er (rW ra nd b) nd st bo ck fa i).2) gt nw gv ck ra fa ft kc kr ke kd kf kg) H := hP
                        have hD : va_D A (mdW cI cZ h m1 m4 m5 m6 m7 m8 m9 m21 m22 m23 m24 m25 m26 m30 m31 m32 m33 m34 m35 pl nd lk st bo ti te nr ml nn nl du nO nT (mLo (itS dl er (rW ra nd b) nd st bo ck fa i).1 dl nd) w2 ik kt kl hh pg dl er (rW ra nd b) ((itS dl er (rW ra nd b) nd st bo ck fa i).1) ((itS dl er (rW ra nd b) nd st bo ck fa i).2) gt nw gv ck ra fa ft kc kr ke kd kf kg) := hD
                        refine lv_aload_n hx hb dX4_layWorst_127 rfl (lv_at hl 1 rfl) ?_
                        refine lv_iload_n hx hb dX4_layWorst_128 rfl (lv_at hl 0 rfl) ?_
                        refine kx_if_eq (tgt := 136) hx hb (by omega) dX4_layWorst_129 (by decide) (fun h129 => ?_) (fun h129 => ?_)
                        · skip
                          refine lv_aload_n hx hb dX4_layWorst_136 rfl (lv_at hl 1 rfl) ?_
                          refine va_get (D := D) (ci := 4) (v := .int (iI w2)) (C := RX4) (T := TX4) (N := 39) hx hb hts iX4 hown hK.1 hP 0 rfl rfl 28 (by decide) (hts (.fieldLink RX4 196 "CloseClocksModel" "worstBy" "I") (by decide +kernel)) (fun _ h9 => h9) rfl dX4_layWorst_137 ?_
                          refine va_put (D := D) (ci := 4) (v := .int (iI w2)) (ty := .int) (C := RX4) (T := TX4) (N := 39) hx hb hts iX4 tyX4 tyX4_ok nmX4 hown hK.1 hP hD hS 0 rfl rfl 28 (by decide) (hts (.fieldLink RX4 196 "CloseClocksModel" "worstBy" "I") (by decide +kernel)) (fun _ h9 => h9) rfl (by decide +kernel) rfl rfl (Nat.le_of_ble_eq_true rfl) dX4_layWorst_140 (fun H locs hP hD hS => ?_)
                          have hP : va_P D vwCl (mdW cI cZ h m1 m4 m5 m6 m7 m8 m9 m21 m22 m23 m24 m25 m26 m30 m31 m32 m33 m34 m35 pl nd lk st bo ti te nr ml nn nl du nO nT (mLo (itS dl er (rW ra nd b) nd st bo ck fa i).1 dl nd) w2 ik kt kl hh pg dl er (rW ra nd b) ((itS dl er (rW ra nd b) nd st bo ck fa i).1) ((itS dl er (rW ra nd b) nd st bo ck fa i).2) gt nw gv ck ra fa ft kc kr ke kd kf kg) H := hP
                          have hD : va_D A (mdW cI cZ h m1 m4 m5 m6 m7 m8 m9 m21 m22 m23 m24 m25 m26 m30 m31 m32 m33 m34 m35 pl nd lk st bo ti te nr ml nn nl du nO nT (mLo (itS dl er (rW ra nd b) nd st bo ck fa i).1 dl nd) w2 ik kt kl hh pg dl er (rW ra nd b) ((itS dl er (rW ra nd b) nd st bo ck fa i).1) ((itS dl er (rW ra nd b) nd st bo ck fa i).2) gt nw gv ck ra fa ft kc kr ke kd kf kg) := hD
                          refine lv_aload_n hx hb dX4_layWorst_143 rfl (lv_at hl 1 rfl) ?_
                          refine kx_cVW (As := []) (rest := []) (wr := []) (q0 := 0) (ci := 4) ⟨hx, hb, hml, hown, hts⟩ (c_X4_setBack l D cI cZ h m1 m4 m5 m6 m7 m8 m9 m21 m22 m23 m24 m25 m26 m30 m31 m32 m33 m34 m35 pl nd lk st bo ti te nr ml nn nl du nO nT (mLo (itS dl er (rW ra nd b) nd st bo ck fa i).1 dl nd) w2 ik kt kl hh pg dl er (rW ra nd b) ((itS dl er (rW ra nd b) nd st bo ck fa i).1) ((itS dl er (rW ra nd b) nd st bo ck fa i).2) gt nw gv ck ra fa ft kc kr ke kd kf kg (hfa)) (cwV 0 hts gX4_layWorst_X4_setBack rfl rfl rfl (by decide +kernel) ⟨Nat.le_of_ble_eq_true rfl, Nat.le_of_ble_eq_true rfl⟩) hK hP hD hS hA [0, 1, 2, 3, 4, 5, 6, 7, 8, 9, 10, 11, 12, 13, 14, 15, 16, 17, 18, 19] [] rfl rfl (by decide) (by decide) (by decide) rfl rfl rfl hl.1 rfl (Nat.le_of_ble_eq_true rfl) dX4_layWorst_144 ⟨Nat.le_of_ble_eq_true rfl, Nat.le_of_ble_eq_true rfl⟩ (fun u H locs hq hP hD hS => ?_)
                          have hP : va_P D vwCl (mdW cI cZ h m1 m4 m5 m6 m7 m8 m9 m21 m22 m23 m24 m25 m26 m30 m31 m32 m33 m34 m35 pl nd lk st bo ti te nr ml nn nl du nO nT (mLo (itS dl er (rW ra nd b) nd st bo ck fa i).1 dl nd) w2 ik kt kl hh pg dl er ra ck fa ft nw gv ck ra fa ft kc kr ke kd kf kg) H := hP.sub [0, 1, 2, 3, 4, 5, 6, 7, 8, 9, 10, 11, 12, 13, 14, 15, 16, 17, 18, 19] rfl
                          have hD : va_D A (mdW cI cZ h m1 m4 m5 m6 m7 m8 m9 m21 m22 m23 m24 m25 m26 m30 m31 m32 m33 m34 m35 pl nd lk st bo ti te nr ml nn nl du nO nT (mLo (itS dl er (rW ra nd b) nd st bo ck fa i).1 dl nd) w2 ik kt kl hh pg dl er ra ck fa ft nw gv ck ra fa ft kc kr ke kd kf kg) := hD.sub [0, 1, 2, 3, 4, 5, 6, 7, 8, 9, 10, 11, 12, 13, 14, 15, 16, 17, 18, 19] (by decide) rfl
                          refine W.eq (g2 := F0 mi 147 ls []) rfl ?_
                          refine kx_iinc (z := ((b + 1 : Nat) : Int)) (lv' := [(2, .int (iI ((b + 1 : Nat) : Int))), (3, .int (iI x)), (0, .ref h), (1, .int (iI (n : Int)))]) hx hb dX4_layWorst_147 hl (k0 := 3) rfl (by omega) (by decide) rfl (fun ls hl => ?_)
                          refine lv_goto (tgt := 17) hx hb dX4_layWorst_150 (by decide) ?_
                          exact ih17 (b + 1) gv (mLo (itS dl er (rW ra nd b) nd st bo ck fa i).1 dl nd) w2 (by first | assumption | omega) (by rw [mWo]; first | (exfalso; omega) | (rw [if_pos (by omega)]; exact hWl) | (rw [if_neg (by omega)]; exact hw1)) (by rw [mWo]; first | (exfalso; omega) | (rw [if_pos (by omega)]; done) | (rw [if_pos (by omega)]; rfl) | (rw [if_neg (by omega)]; exact hw2)) (by first | assumption | omega) (by omega) H locs hP hD hS ls (lv_sub hl [2, 3, 0] rfl)
                        · skip
                          refine lv_iload_n hx hb dX4_layWorst_132 rfl (lv_at hl 3 rfl) ?_
                          refine lv_goto (tgt := 140) hx hb dX4_layWorst_133 (by decide) ?_
                          refine va_put (D := D) (ci := 4) (v := .int (iI (b : Int))) (ty := .int) (C := RX4) (T := TX4) (N := 39) hx hb hts iX4 tyX4 tyX4_ok nmX4 hown hK.1 hP hD hS 0 rfl rfl 28 (by decide) (hts (.fieldLink RX4 196 "CloseClocksModel" "worstBy" "I") (by decide +kernel)) (fun _ h9 => h9) rfl (by decide +kernel) rfl rfl (Nat.le_of_ble_eq_true rfl) dX4_layWorst_140 (fun H locs hP hD hS => ?_)
                          have hP : va_P D vwCl (mdW cI cZ h m1 m4 m5 m6 m7 m8 m9 m21 m22 m23 m24 m25 m26 m30 m31 m32 m33 m34 m35 pl nd lk st bo ti te nr ml nn nl du nO nT (mLo (itS dl er (rW ra nd b) nd st bo ck fa i).1 dl nd) (b : Int) ik kt kl hh pg dl er (rW ra nd b) ((itS dl er (rW ra nd b) nd st bo ck fa i).1) ((itS dl er (rW ra nd b) nd st bo ck fa i).2) gt nw gv ck ra fa ft kc kr ke kd kf kg) H := hP
                          have hD : va_D A (mdW cI cZ h m1 m4 m5 m6 m7 m8 m9 m21 m22 m23 m24 m25 m26 m30 m31 m32 m33 m34 m35 pl nd lk st bo ti te nr ml nn nl du nO nT (mLo (itS dl er (rW ra nd b) nd st bo ck fa i).1 dl nd) (b : Int) ik kt kl hh pg dl er (rW ra nd b) ((itS dl er (rW ra nd b) nd st bo ck fa i).1) ((itS dl er (rW ra nd b) nd st bo ck fa i).2) gt nw gv ck ra fa ft kc kr ke kd kf kg) := hD
                          refine lv_aload_n hx hb dX4_layWorst_143 rfl (lv_at hl 1 rfl) ?_
                          refine kx_cVW (As := []) (rest := []) (wr := []) (q0 := 0) (ci := 4) ⟨hx, hb, hml, hown, hts⟩ (c_X4_setBack l D cI cZ h m1 m4 m5 m6 m7 m8 m9 m21 m22 m23 m24 m25 m26 m30 m31 m32 m33 m34 m35 pl nd lk st bo ti te nr ml nn nl du nO nT (mLo (itS dl er (rW ra nd b) nd st bo ck fa i).1 dl nd) (b : Int) ik kt kl hh pg dl er (rW ra nd b) ((itS dl er (rW ra nd b) nd st bo ck fa i).1) ((itS dl er (rW ra nd b) nd st bo ck fa i).2) gt nw gv ck ra fa ft kc kr ke kd kf kg (hfa)) (cwV 0 hts gX4_layWorst_X4_setBack rfl rfl rfl (by decide +kernel) ⟨Nat.le_of_ble_eq_true rfl, Nat.le_of_ble_eq_true rfl⟩) hK hP hD hS hA [0, 1, 2, 3, 4, 5, 6, 7, 8, 9, 10, 11, 12, 13, 14, 15, 16, 17, 18, 19] [] rfl rfl (by decide) (by decide) (by decide) rfl rfl rfl hl.1 rfl (Nat.le_of_ble_eq_true rfl) dX4_layWorst_144 ⟨Nat.le_of_ble_eq_true rfl, Nat.le_of_ble_eq_true rfl⟩ (fun u H locs hq hP hD hS => ?_)
                          have hP : va_P D vwCl (mdW cI cZ h m1 m4 m5 m6 m7 m8 m9 m21 m22 m23 m24 m25 m26 m30 m31 m32 m33 m34 m35 pl nd lk st bo ti te nr ml nn nl du nO nT (mLo (itS dl er (rW ra nd b) nd st bo ck fa i).1 dl nd) (b : Int) ik kt kl hh pg dl er ra ck fa ft nw gv ck ra fa ft kc kr ke kd kf kg) H := hP.sub [0, 1, 2, 3, 4, 5, 6, 7, 8, 9, 10, 11, 12, 13, 14, 15, 16, 17, 18, 19] rfl
                          have hD : va_D A (mdW cI cZ h m1 m4 m5 m6 m7 m8 m9 m21 m22 m23 m24 m25 m26 m30 m31 m32 m33 m34 m35 pl nd lk st bo ti te nr ml nn nl du nO nT (mLo (itS dl er (rW ra nd b) nd st bo ck fa i).1 dl nd) (b : Int) ik kt kl hh pg dl er ra ck fa ft nw gv ck ra fa ft kc kr ke kd kf kg) := hD.sub [0, 1, 2, 3, 4, 5, 6, 7, 8, 9, 10, 11, 12, 13, 14, 15, 16, 17, 18, 19] (by decide) rfl
                          refine W.eq (g2 := F0 mi 147 ls []) rfl ?_
                          refine kx_iinc (z := ((b + 1 : Nat) : Int)) (lv' := [(2, .int (iI ((b + 1 : Nat) : Int))), (3, .int (iI x)), (0, .ref h), (1, .int (iI (n : Int)))]) hx hb dX4_layWorst_147 hl (k0 := 3) rfl (by omega) (by decide) rfl (fun ls hl => ?_)
                          refine lv_goto (tgt := 17) hx hb dX4_layWorst_150 (by decide) ?_
                          exact ih17 (b + 1) gv (mLo (itS dl er (rW ra nd b) nd st bo ck fa i).1 dl nd) (b : Int) (by first | assumption | omega) (by rw [mWo]; first | (exfalso; omega) | (rw [if_pos (by omega)]; exact hWl) | (rw [if_neg (by omega)]; exact hw1)) (by rw [mWo]; first | (exfalso; omega) | (rw [if_pos (by omega)]; done) | (rw [if_pos (by omega)]; rfl) | (rw [if_neg (by omega)]; exact hw2)) (by first | assumption | omega) (by omega) H locs hP hD hS ls (lv_sub hl [2, 3, 0] rfl)
                    refine lv_aload_n hx hb dX4_layWorst_82 rfl (lv_at hl 0 rfl) ?_
                    refine va_get (D := D) (ci := 4) (v := .int (iI w1)) (C := RX4) (T := TX4) (N := 39) hx hb hts iX4 hown hK.1 hP 0 rfl rfl 27 (by decide) (hts (.fieldLink RX4 193 "CloseClocksModel" "worstMost" "I") (by decide +kernel)) (fun _ h9 => h9) rfl dX4_layWorst_83 ?_
                    refine kx_ldc (z := -100000001) hx hb hown (hts (.constant RX4 96 (-100000001)) (by decide +kernel)) dX4_layWorst_86 (by decide) ?_
                    refine kx_icmp_eq (tgt := 102) hx hb (by omega) (by omega) dX4_layWorst_88 (by decide) (fun h88 => ?_) (fun h88 => ?_)
                    · skip
                      refine kx_const (z := 1) hx hb dX4_layWorst_102 rfl ?_
                      refine lv_goto (tgt := 107) hx hb dX4_layWorst_103 (by decide) ?_
                      exact J107_1 1 (by first | assumption | omega) H locs hP hD hS ls (lv_sub hl [0, 1, 2] rfl)
                    · skip
                      refine lv_aload_n hx hb dX4_layWorst_91 rfl (lv_at hl 0 rfl) ?_
                      refine kx_cV (As := []) (rest := []) (st1 := [.int (iI (mLo (itS dl er (rW ra nd b) nd st bo ck fa i).1 dl nd))]) (q0 := 0) (ci := 4) ⟨hx, hb, hml, hown, hts⟩ (c_X4_local l D cI cZ h m1 m4 m5 m6 m7 m8 m9 m21 m22 m23 m24 m25 m26 m30 m31 m32 m33 m34 m35 pl nd lk st bo ti te nr ml nn nl du nO nT w1 w2 ik kt kl hh pg dl er (rW ra nd b) ((itS dl er (rW ra nd b) nd st bo ck fa i).1) ((itS dl er (rW ra nd b) nd st bo ck fa i).2) gt nw gv ck ra fa ft kc kr ke kd kf kg (by first | assumption | omega) (by first | assumption | omega) (hci)) (cwV 0 hts gX4_layWorst_X4_local rfl rfl rfl (by decide +kernel) ⟨Nat.le_of_ble_eq_true rfl, Nat.le_of_ble_eq_true rfl⟩) hK hP rfl rfl rfl hl.1 rfl (Nat.le_of_ble_eq_true rfl) dX4_layWorst_92 ⟨Nat.zero_le _, Nat.zero_le _⟩ rfl ?_
                      refine lv_aload_n hx hb dX4_layWorst_95 rfl (lv_at hl 0 rfl) ?_
                      refine va_get (D := D) (ci := 4) (v := .int (iI w1)) (C := RX4) (T := TX4) (N := 39) hx hb hts iX4 hown hK.1 hP 0 rfl rfl 27 (by decide) (hts (.fieldLink RX4 193 "CloseClocksModel" "worstMost" "I") (by decide +kernel)) (fun _ h9 => h9) rfl dX4_layWorst_96 ?_
                      refine kx_icmp_le (tgt := 106) hx hb (by omega) (by omega) dX4_layWorst_99 (by decide) (fun h99 => ?_) (fun h99 => ?_)
                      · skip
                        refine kx_const (z := 0) hx hb dX4_layWorst_106 rfl ?_
                        exact J107_1 0 (by first | assumption | omega) H locs hP hD hS ls (lv_sub hl [0, 1, 2] rfl)
                      · skip
                        refine kx_const (z := 1) hx hb dX4_layWorst_102 rfl ?_
                        refine lv_goto (tgt := 107) hx hb dX4_layWorst_103 (by decide) ?_
                        exact J107_1 1 (by first | assumption | omega) H locs hP hD hS ls (lv_sub hl [0, 1, 2] rfl)
                  · skip
                    refine lv_aload_n hx hb dX4_layWorst_72 rfl (lv_at hl 0 rfl) ?_
                    refine kx_cVW (As := []) (rest := []) (wr := []) (q0 := 0) (ci := 4) ⟨hx, hb, hml, hown, hts⟩ (c_X4_tick l D cI cZ h m1 m4 m5 m6 m7 m8 m9 m21 m22 m23 m24 m25 m26 m30 m31 m32 m33 m34 m35 pl nd lk st bo ti te nr ml nn nl du nO nT w1 w2 ik kt kl hh pg dl er (rW ra nd b) ((itS dl er (rW ra nd b) nd st bo ck fa i).1) ((itS dl er (rW ra nd b) nd st bo ck fa i).2) gt nw gv ck ra fa ft kc kr ke kd kf kg (by first | assumption | omega) (by first | assumption | omega) (hci) (by first | assumption | omega) (by first | assumption | omega) (hbi.2) (rW_bd hra)) (cwV 0 hts gX4_layWorst_X4_tick rfl rfl rfl (by decide +kernel) ⟨Nat.le_of_ble_eq_true rfl, Nat.le_of_ble_eq_true rfl⟩) hK hP hD hS hA [0, 1, 2, 3, 4, 5, 6, 7, 8, 9, 10, 11, 12, 13, 14, 15, 16, 17, 18, 19] [] rfl rfl (by decide) (by decide) (by decide) rfl rfl rfl hl.1 rfl (Nat.le_of_ble_eq_true rfl) dX4_layWorst_73 ⟨Nat.le_of_ble_eq_true rfl, Nat.le_of_ble_eq_true rfl⟩ (fun u H locs hq hP hD hS => ?_)
                    obtain ⟨u_2, hu⟩ : ∃ z, z = u := ⟨_, rfl⟩
                    subst hu
                    have hP : va_P D vwCl (mdW cI cZ h m1 m4 m5 m6 m7 m8 m9 m21 m22 m23 m24 m25 m26 m30 m31 m32 m33 m34 m35 pl nd lk st bo ti te nr ml nn nl du nO nT w1 w2 ik kt kl hh pg dl er (rW ra nd b) (tCk (itS dl er (rW ra nd b) nd st bo ck fa i).1 dl er (itS dl er (rW ra nd b) nd st bo ck fa i).2 (rW ra nd b) nd st bo) (tFa (itS dl er (rW ra nd b) nd st bo ck fa i).1 dl er (itS dl er (rW ra nd b) nd st bo ck fa i).2 nd st) (tFt (itS dl er (rW ra nd b) nd st bo ck fa i).1 dl er (itS dl er (rW ra nd b) nd st bo ck fa i).2 gt nd st) nw u_2 ck ra fa ft kc kr ke kd kf kg) H := hP.sub [0, 1, 2, 3, 4, 5, 6, 7, 8, 9, 10, 11, 12, 13, 14, 15, 16, 17, 18, 19] rfl
                    have hD : va_D A (mdW cI cZ h m1 m4 m5 m6 m7 m8 m9 m21 m22 m23 m24 m25 m26 m30 m31 m32 m33 m34 m35 pl nd lk st bo ti te nr ml nn nl du nO nT w1 w2 ik kt kl hh pg dl er (rW ra nd b) (tCk (itS dl er (rW ra nd b) nd st bo ck fa i).1 dl er (itS dl er (rW ra nd b) nd st bo ck fa i).2 (rW ra nd b) nd st bo) (tFa (itS dl er (rW ra nd b) nd st bo ck fa i).1 dl er (itS dl er (rW ra nd b) nd st bo ck fa i).2 nd st) (tFt (itS dl er (rW ra nd b) nd st bo ck fa i).1 dl er (itS dl er (rW ra nd b) nd st bo ck fa i).2 gt nd st) nw u_2 ck ra fa ft kc kr ke kd kf kg) := hD.sub [0, 1, 2, 3, 4, 5, 6, 7, 8, 9, 10, 11, 12, 13, 14, 15, 16, 17, 18, 19] (by decide) rfl
                    refine W.eq (g2 := F0 mi 76 ls []) rfl ?_
                    refine kx_iinc (z := ((i + 1 : Nat) : Int)) (lv' := [(3, .int (iI ((i + 1 : Nat) : Int))), (0, .ref h), (1, .int (iI (n : Int))), (2, .int (iI (b : Int)))]) hx hb dX4_layWorst_76 hl (k0 := 3) rfl (by omega) (by decide) rfl (fun ls hl => ?_)
                    refine lv_goto (tgt := 67) hx hb dX4_layWorst_79 (by decide) ?_
                    exact ih67 (i + 1) u_2 (tFt (itS dl er (rW ra nd b) nd st bo ck fa i).1 dl er (itS dl er (rW ra nd b) nd st bo ck fa i).2 gt nd st) (by first | assumption | omega) (by omega) H locs hP hD hS ls (lv_sub hl [1, 2, 3, 0] rfl)
              exact L67 (n - 0 + 1) 0 gu ft (by first | assumption | omega) (Nat.lt_succ_self _) H locs hP hD hS ls (lv_sub hl [1, 2, 3, 0] rfl)
            · skip
              refine lv_aload_n hx hb dX4_layWorst_37 rfl (lv_at hl 0 rfl) ?_
              refine va_get (D := D) (ci := 4) (v := .ref m6) (C := RX4) (T := TX4) (N := 39) hx hb hts iX4 hown hK.1 hP 0 rfl rfl 6 (by decide) (hts (.fieldLink RX4 19 "CloseClocksModel" "rateOf" "[I") (by decide +kernel)) (fun _ h9 => h9) rfl dX4_layWorst_38 ?_
              refine lv_iload_n hx hb dX4_layWorst_41 rfl (lv_at hl 3 rfl) ?_
              refine lv_iload_n hx hb dX4_layWorst_42 rfl (lv_at hl 2 rfl) ?_
              refine lv_iload_n hx hb dX4_layWorst_43 rfl (lv_at hl 3 rfl) ?_
              refine kx_ishr (n := b) (w := v) hx hb (by omega) (by omega) dX4_layWorst_44 ?_
              refine kx_const (z := 1) hx hb dX4_layWorst_45 rfl ?_
              refine kx_iand1 (n := (b / 2 ^ v)) hx hb (by have := Nat.div_le_self b (2 ^ v); omega) dX4_layWorst_46 ?_
              refine kx_const (z := 1) hx hb dX4_layWorst_47 rfl ?_
              refine kx_icmp_ne (tgt := 56) hx hb (by omega) (by omega) dX4_layWorst_48 (by decide) (fun h48 => ?_) (fun h48 => ?_)
              · skip
                refine kx_bipush (z := 90) hx hb dX4_layWorst_56 (by decide) ?_
                refine kx_iast (k := v) (x := 90) hx hb hK hP hD hS 4 rfl (by omega) (by omega) (by decide) dX4_layWorst_58 (fun H locs hP hD hS => ?_)
                have hP : va_P D vwCl (mdW cI cZ h m1 m4 m5 m6 m7 m8 m9 m21 m22 m23 m24 m25 m26 m30 m31 m32 m33 m34 m35 pl nd lk st bo ti te nr ml nn nl du nO nT w1 w2 ik kt kl hh pg dl er (va_up gr v 90) ck fa ft nw gu ck ra fa ft kc kr ke kd kf kg) H := hP
                have hD : va_D A (mdW cI cZ h m1 m4 m5 m6 m7 m8 m9 m21 m22 m23 m24 m25 m26 m30 m31 m32 m33 m34 m35 pl nd lk st bo ti te nr ml nn nl du nO nT w1 w2 ik kt kl hh pg dl er (va_up gr v 90) ck fa ft nw gu ck ra fa ft kc kr ke kd kf kg) := hD
                refine kx_iinc (z := ((v + 1 : Nat) : Int)) (lv' := [(3, .int (iI ((v + 1 : Nat) : Int))), (0, .ref h), (1, .int (iI (n : Int))), (2, .int (iI (b : Int)))]) hx hb dX4_layWorst_59 hl (k0 := 3) rfl (by omega) (by decide) rfl (fun ls hl => ?_)
                refine lv_goto (tgt := 29) hx hb dX4_layWorst_62 (by decide) ?_
                exact ih29 (v + 1) (va_up gr v 90) (by first | assumption | omega) (up_mix hgr (by show _ = if _ then _ else _; first | (rw [if_pos ((tb_iff b v).mpr (by omega))]) | (rw [if_neg (fun q => by have := (tb_iff b v).mp q; omega)]))) (by omega) H locs hP hD hS ls (lv_sub hl [1, 2, 3, 0] rfl)
              · skip
                refine kx_bipush (z := 110) hx hb dX4_layWorst_51 (by decide) ?_
                refine lv_goto (tgt := 58) hx hb dX4_layWorst_53 (by decide) ?_
                refine kx_iast (k := v) (x := 110) hx hb hK hP hD hS 4 rfl (by omega) (by omega) (by decide) dX4_layWorst_58 (fun H locs hP hD hS => ?_)
                have hP : va_P D vwCl (mdW cI cZ h m1 m4 m5 m6 m7 m8 m9 m21 m22 m23 m24 m25 m26 m30 m31 m32 m33 m34 m35 pl nd lk st bo ti te nr ml nn nl du nO nT w1 w2 ik kt kl hh pg dl er (va_up gr v 110) ck fa ft nw gu ck ra fa ft kc kr ke kd kf kg) H := hP
                have hD : va_D A (mdW cI cZ h m1 m4 m5 m6 m7 m8 m9 m21 m22 m23 m24 m25 m26 m30 m31 m32 m33 m34 m35 pl nd lk st bo ti te nr ml nn nl du nO nT w1 w2 ik kt kl hh pg dl er (va_up gr v 110) ck fa ft nw gu ck ra fa ft kc kr ke kd kf kg) := hD
                refine kx_iinc (z := ((v + 1 : Nat) : Int)) (lv' := [(3, .int (iI ((v + 1 : Nat) : Int))), (0, .ref h), (1, .int (iI (n : Int))), (2, .int (iI (b : Int)))]) hx hb dX4_layWorst_59 hl (k0 := 3) rfl (by omega) (by decide) rfl (fun ls hl => ?_)
                refine lv_goto (tgt := 29) hx hb dX4_layWorst_62 (by decide) ?_
                exact ih29 (v + 1) (va_up gr v 110) (by first | assumption | omega) (up_mix hgr (by show _ = if _ then _ else _; first | (rw [if_pos ((tb_iff b v).mpr (by omega))]) | (rw [if_neg (fun q => by have := (tb_iff b v).mp q; omega)]))) (by omega) H locs hP hD hS ls (lv_sub hl [1, 2, 3, 0] rfl)
        exact L29 (nd.toNat - 0 + 1) 0 ra (by first | assumption | omega) (mix_0) (Nat.lt_succ_self _) H locs hP hD hS ls (lv_sub hl [1, 2, 3, 0] rfl)
  exact L17 (N2 - 0 + 1) 0 tu (-100000001) 0 (by first | assumption | omega) (rfl) (rfl) (by first | assumption | omega) (Nat.lt_succ_self _) H locs hP hD hS ls (lv_sub hl [1, 2, 0] rfl)
def rm_X4_worstNow : Room := ({ frames := 7, cells := 0, slots := 0, locals := 157 } : Room)
set_option maxHeartbeats 4000000 in
set_option maxRecDepth 100000 in
theorem c_X4_worstNow (l : Launch) (D : va_G) (cI cZ : ClassId) (h m1 m4 m5 m6 m7 m8 m9 m21 m22 m23 m24 m25 m26 m30 m31 m32 m33 m34 m35 : Nat) (pl nd lk st bo ti te nr ml nn nl du nO nT wm wb ik kt kl : Int) (hh : Int64) (pg dl er ra ck fa ft nw tu tc tr tf tt kc kr ke kd kf kg : Nat → Int) (n : Nat) (q : Int) (hn : n ≤ 12) (hnd : 0 ≤ nd ∧ nd ≤ 6) (hdl : ∀ k : Nat, k < 36 → dl k = -100000001 ∨ (0 ≤ dl k ∧ dl k ≤ 3)) (hck4 : ∀ k : Nat, k < 24 → 0 ≤ ck k ∧ ck k ≤ 40000000) (her : ∀ k : Nat, k < 36 → -9 ≤ er k ∧ er k ≤ 9) (hst : 1 ≤ st ∧ st ≤ 500) (hfa : ∀ k : Nat, k < 6 → fa k = 0 ∨ fa k = 1) (hra : ∀ k : Nat, k < 6 → 0 ≤ ra k ∧ ra k ≤ 110) (hbo : 1 ≤ bo ∧ bo ≤ 60) (hq : -2147483648 ≤ q ∧ q < 2147483648) : kWR l yX4_worstNow wsX4_worstNow rm_X4_worstNow D cI cZ [.ref h, .int (iI (n : Int)), .int (iI q)] (mdW cI cZ h m1 m4 m5 m6 m7 m8 m9 m21 m22 m23 m24 m25 m26 m30 m31 m32 m33 m34 m35 pl nd lk st bo ti te nr ml nn nl du nO nT wm wb ik kt kl hh pg dl er ra ck fa ft nw tu tc tr tf tt kc kr ke kd kf kg) (fun u : (Nat → Int) => some (.int (iI (if q = 0 then (mW dl er ra nd st bo ck fa n).1 else ((mW dl er ra nd st bo ck fa n).2 : Int))))) (fun u : (Nat → Int) => True) (fun u : (Nat → Int) => mdW cI cZ h m1 m4 m5 m6 m7 m8 m9 m21 m22 m23 m24 m25 m26 m30 m31 m32 m33 m34 m35 pl nd lk st bo ti te nr ml nn nl du nO nT ((mW dl er ra nd st bo ck fa n).1) ((mW dl er ra nd st bo ck fa n).2 : Int) ik kt kl hh pg dl er ra ck fa ft nw u ck ra fa ft kc kr ke kd kf kg) 0 0 := by
  refine kx_WRi (cc := cX4_worstNow) (maxL := 3) (by decide) rfl (Nat.le_of_ble_eq_true rfl) ?_
  intro pr en s mi args below meth co Q A hx hb hml hown hts hK hin hA hP hD hS hret ls hl
  have hown : s.vm.findClass RX4 = some mi.cls := hown
  have iX4 : ∀ w ∈ wsX40, w ∈ wsX4_worstNow := by decide +kernel
  have hl : lv_has ls 3 [(0, .ref h), (1, .int (iI (n : Int))), (2, .int (iI q))] := hl
  generalize hH0 : s.heap = H0 at hA hP hS hret ⊢
  obtain ⟨H, hH⟩ : ∃ H : Heap, H = H0 := ⟨_, rfl⟩
  obtain ⟨locs, hlocs⟩ : ∃ locs : List Loc, locs = [] := ⟨_, rfl⟩
  have hS : va_S A H0 H locs := by rw [hH, hlocs]; exact hS
  have hP : va_P D vwCl (mdW cI cZ h m1 m4 m5 m6 m7 m8 m9 m21 m22 m23 m24 m25 m26 m30 m31 m32 m33 m34 m35 pl nd lk st bo ti te nr ml nn nl du nO nT wm wb ik kt kl hh pg dl er ra ck fa ft nw tu tc tr tf tt kc kr ke kd kf kg) H := by rw [hH]; exact hP
  suffices hgo : W pr l en rm_X4_worstNow s mi args below meth co H locs 0 0 Q (F0 mi 0 ls []) by rw [hH, hlocs] at hgo; exact hgo
  clear hH hlocs
  refine lv_aload_n hx hb dX4_worstNow_0 rfl (lv_at hl 0 rfl) ?_
  refine lv_iload_n hx hb dX4_worstNow_1 rfl (lv_at hl 1 rfl) ?_
  refine kx_cVW (As := [.int (iI (n : Int))]) (rest := []) (wr := []) (q0 := 0) (ci := 4) ⟨hx, hb, hml, hown, hts⟩ (c_X4_layWorst l D cI cZ h m1 m4 m5 m6 m7 m8 m9 m21 m22 m23 m24 m25 m26 m30 m31 m32 m33 m34 m35 pl nd lk st bo ti te nr ml nn nl du nO nT wm wb ik kt kl hh pg dl er ra ck fa ft nw tu tc tr tf tt kc kr ke kd kf kg n (by first | assumption | omega) (by first | assumption | omega) (by first | assumption | omega) (by first | assumption | omega) (by first | assumption | omega) (by first | assumption | omega) (by first | assumption | omega) (by first | assumption | omega) (by first | assumption | omega)) (cwV 1 hts gX4_worstNow_X4_layWorst rfl rfl rfl (by decide +kernel) ⟨Nat.le_of_ble_eq_true rfl, Nat.le_of_ble_eq_true rfl⟩) hK hP hD hS hA [0, 1, 2, 3, 4, 5, 6, 7, 8, 9, 10, 11, 12, 13, 14, 15, 16, 17, 18, 19] [] rfl rfl (by decide) (by decide) (by decide) rfl rfl rfl hl.1 rfl (Nat.le_of_ble_eq_true rfl) dX4_worstNow_2 ⟨Nat.le_of_ble_eq_true rfl, Nat.le_of_ble_eq_true rfl⟩ (fun u H locs hq hP hD hS => ?_)
  obtain ⟨u_1, hu⟩ : ∃ z, z = u := ⟨_, rfl⟩
  subst hu
  have hP : va_P D vwCl (mdW cI cZ h m1 m4 m5 m6 m7 m8 m9 m21 m22 m23 m24 m25 m26 m30 m31 m32 m33 m34 m35 pl nd lk st bo ti te nr ml nn nl du nO nT ((mW dl er ra nd st bo ck fa n).1) ((mW dl er ra nd st bo ck fa n).2 : Int) ik kt kl hh pg dl er ra ck fa ft nw u_1 ck ra fa ft kc kr ke kd kf kg) H := hP.sub [0, 1, 2, 3, 4, 5, 6, 7, 8, 9, 10, 11, 12, 13, 14, 15, 16, 17, 18, 19] rfl
  have hD : va_D A (mdW cI cZ h m1 m4 m5 m6 m7 m8 m9 m21 m22 m23 m24 m25 m26 m30 m31 m32 m33 m34 m35 pl nd lk st bo ti te nr ml nn nl du nO nT ((mW dl er ra nd st bo ck fa n).1) ((mW dl er ra nd st bo ck fa n).2 : Int) ik kt kl hh pg dl er ra ck fa ft nw u_1 ck ra fa ft kc kr ke kd kf kg) := hD.sub [0, 1, 2, 3, 4, 5, 6, 7, 8, 9, 10, 11, 12, 13, 14, 15, 16, 17, 18, 19] (by decide) rfl
  refine W.eq (g2 := F0 mi 5 ls []) rfl ?_
  refine lv_iload_n hx hb dX4_worstNow_5 rfl (lv_at hl 2 rfl) ?_
  refine kx_if_ne (tgt := 16) hx hb (by omega) dX4_worstNow_6 (by decide) (fun h6 => ?_) (fun h6 => ?_)
  · skip
    refine lv_aload_n hx hb dX4_worstNow_16 rfl (lv_at hl 0 rfl) ?_
    refine va_get (D := D) (ci := 4) (v := .int (iI ((mW dl er ra nd st bo ck fa n).2 : Int))) (C := RX4) (T := TX4) (N := 39) hx hb hts iX4 hown hK.1 hP 0 rfl rfl 28 (by decide) (hts (.fieldLink RX4 196 "CloseClocksModel" "worstBy" "I") (by decide +kernel)) (fun _ h9 => h9) rfl dX4_worstNow_17 ?_
    refine kx_top (b := (if q = 0 then (mW dl er ra nd st bo ck fa n).1 else ((mW dl er ra nd st bo ck fa n).2 : Int))) (by (repeat' split) <;> first | rfl | omega | contradiction | (exfalso; simp_all; done) | (exfalso; simp_all; omega)) ?_
    exact hret u_1 H locs _ _ (trivial) hP hD hS dX4_worstNow_20
  · skip
    refine lv_aload_n hx hb dX4_worstNow_9 rfl (lv_at hl 0 rfl) ?_
    refine va_get (D := D) (ci := 4) (v := .int (iI ((mW dl er ra nd st bo ck fa n).1))) (C := RX4) (T := TX4) (N := 39) hx hb hts iX4 hown hK.1 hP 0 rfl rfl 27 (by decide) (hts (.fieldLink RX4 193 "CloseClocksModel" "worstMost" "I") (by decide +kernel)) (fun _ h9 => h9) rfl dX4_worstNow_10 ?_
    refine lv_goto (tgt := 20) hx hb dX4_worstNow_13 (by decide) ?_
    refine kx_top (b := (if q = 0 then (mW dl er ra nd st bo ck fa n).1 else ((mW dl er ra nd st bo ck fa n).2 : Int))) (by (repeat' split) <;> first | rfl | omega | contradiction | (exfalso; simp_all; done) | (exfalso; simp_all; omega)) ?_
    exact hret u_1 H locs _ _ (trivial) hP hD hS dX4_worstNow_20
def rm_X4_worst : Room := ({ frames := 8, cells := 0, slots := 0, locals := 179 } : Room)
set_option maxHeartbeats 4000000 in
set_option maxRecDepth 100000 in
theorem c_X4_worst (l : Launch) (D : va_G) (cI cZ : ClassId) (h m1 m4 m5 m6 m7 m8 m9 m21 m22 m23 m24 m25 m26 m30 m31 m32 m33 m34 m35 : Nat) (pl nd lk st bo ti te nr ml nn nl du nO nT wm wb ik kt kl : Int) (hh : Int64) (pg dl er ra ck fa ft nw tu tc tr tf tt kc kr ke kd kf kg : Nat → Int) (z q : Int) (hnd : 0 ≤ nd ∧ nd ≤ 6) (hdl : ∀ k : Nat, k < 36 → dl k = -100000001 ∨ (0 ≤ dl k ∧ dl k ≤ 3)) (hck4 : ∀ k : Nat, k < 24 → 0 ≤ ck k ∧ ck k ≤ 40000000) (her : ∀ k : Nat, k < 36 → -9 ≤ er k ∧ er k ≤ 9) (hst : 1 ≤ st ∧ st ≤ 500) (hfa : ∀ k : Nat, k < 6 → fa k = 0 ∨ fa k = 1) (hra : ∀ k : Nat, k < 6 → 0 ≤ ra k ∧ ra k ≤ 110) (hbo : 1 ≤ bo ∧ bo ≤ 60) (hq : -2147483648 ≤ q ∧ q < 2147483648) (hz : -2147483648 ≤ z ∧ z < 2147483648) : kWR l yX4_worst wsX4_worst rm_X4_worst D cI cZ [.ref h, .int (iI z), .int (iI q)] (mdW cI cZ h m1 m4 m5 m6 m7 m8 m9 m21 m22 m23 m24 m25 m26 m30 m31 m32 m33 m34 m35 pl nd lk st bo ti te nr ml nn nl du nO nT wm wb ik kt kl hh pg dl er ra ck fa ft nw tu tc tr tf tt kc kr ke kd kf kg) (fun u : (Nat → Int) × Int × Int × (Nat → Int) × (Nat → Int) × (Nat → Int) × (Nat → Int) => some (.int (iI (if ¬ ((1 ≤ z ∧ z ≤ 12) ∧ (0 ≤ q ∧ q ≤ 1)) then -100000003 else if nd = 0 then -100000004 else if q = 0 then (mW dl er ra nd st bo ck fa z.toNat).1 else ((mW dl er ra nd st bo ck fa z.toNat).2 : Int))))) (fun u : (Nat → Int) × Int × Int × (Nat → Int) × (Nat → Int) × (Nat → Int) × (Nat → Int) => True) (fun u : (Nat → Int) × Int × Int × (Nat → Int) × (Nat → Int) × (Nat → Int) × (Nat → Int) => mdW cI cZ h m1 m4 m5 m6 m7 m8 m9 m21 m22 m23 m24 m25 m26 m30 m31 m32 m33 m34 m35 pl nd lk st bo ti te nr ml nn nl du nO nT u.2.1 u.2.2.1 ik kt kl hh pg dl er ra ck fa ft nw u.1 u.2.2.2.1 u.2.2.2.2.1 u.2.2.2.2.2.1 u.2.2.2.2.2.2 kc kr ke kd kf kg) 0 0 := by
  refine kx_WRi (cc := cX4_worst) (maxL := 3) (by decide) rfl (Nat.le_of_ble_eq_true rfl) ?_
  intro pr en s mi args below meth co Q A hx hb hml hown hts hK hin hA hP hD hS hret ls hl
  have hown : s.vm.findClass RX4 = some mi.cls := hown
  have iX4 : ∀ w ∈ wsX40, w ∈ wsX4_worst := by decide +kernel
  have hl : lv_has ls 3 [(0, .ref h), (1, .int (iI z)), (2, .int (iI q))] := hl
  generalize hH0 : s.heap = H0 at hA hP hS hret ⊢
  obtain ⟨H, hH⟩ : ∃ H : Heap, H = H0 := ⟨_, rfl⟩
  obtain ⟨locs, hlocs⟩ : ∃ locs : List Loc, locs = [] := ⟨_, rfl⟩
  have hS : va_S A H0 H locs := by rw [hH, hlocs]; exact hS
  have hP : va_P D vwCl (mdW cI cZ h m1 m4 m5 m6 m7 m8 m9 m21 m22 m23 m24 m25 m26 m30 m31 m32 m33 m34 m35 pl nd lk st bo ti te nr ml nn nl du nO nT wm wb ik kt kl hh pg dl er ra ck fa ft nw tu tc tr tf tt kc kr ke kd kf kg) H := by rw [hH]; exact hP
  suffices hgo : W pr l en rm_X4_worst s mi args below meth co H locs 0 0 Q (F0 mi 0 ls []) by rw [hH, hlocs] at hgo; exact hgo
  clear hH hlocs
  refine lv_iload_n hx hb dX4_worst_0 rfl (lv_at hl 1 rfl) ?_
  refine kx_const (z := 1) hx hb dX4_worst_1 rfl ?_
  refine kx_bipush (z := 12) hx hb dX4_worst_2 (by decide) ?_
  refine kx_cS (As := [.int (iI z), .int (iI 1), .int (iI 12)]) (rest := []) (st1 := [.int (iI (if (1 ≤ z ∧ z ≤ 12) then 1 else 0))]) ⟨hx, hb, hml, hown, hts⟩ (c_X4_within l D cI cZ z 1 12 (by first | assumption | omega) (by first | assumption | omega) (by first | assumption | omega)) (va_cwS 3 hts gX4_worst_X4_within rfl rfl rfl (by decide +kernel) ⟨Nat.le_of_ble_eq_true rfl, Nat.le_of_ble_eq_true rfl⟩) hK (hP.sub (ws' := []) [] rfl) rfl hl.1 rfl (Nat.le_of_ble_eq_true rfl) dX4_worst_4 ⟨Nat.zero_le _, Nat.zero_le _⟩ rfl ?_
  refine kx_if_eqB (tgt := 19) hx hb dX4_worst_7 (by decide) (fun h7 => ?_) (fun h7 => ?_)
  · skip
    refine kx_ldc (z := -100000003) hx hb hown (hts (.constant RX4 79 (-100000003)) (by decide +kernel)) dX4_worst_19 (by decide) ?_
    refine kx_top (b := (if ¬ ((1 ≤ z ∧ z ≤ 12) ∧ (0 ≤ q ∧ q ≤ 1)) then -100000003 else if nd = 0 then -100000004 else if q = 0 then (mW dl er ra nd st bo ck fa z.toNat).1 else ((mW dl er ra nd st bo ck fa z.toNat).2 : Int))) (by (repeat' split) <;> first | rfl | omega | contradiction | (exfalso; simp_all; done) | (exfalso; simp_all; omega)) ?_
    exact hret (tu, wm, wb, tc, tr, tf, tt) H locs _ _ (trivial) hP hD hS dX4_worst_21
  · skip
    refine lv_iload_n hx hb dX4_worst_10 rfl (lv_at hl 2 rfl) ?_
    refine kx_const (z := 0) hx hb dX4_worst_11 rfl ?_
    refine kx_const (z := 1) hx hb dX4_worst_12 rfl ?_
    refine kx_cS (As := [.int (iI q), .int (iI 0), .int (iI 1)]) (rest := []) (st1 := [.int (iI (if (0 ≤ q ∧ q ≤ 1) then 1 else 0))]) ⟨hx, hb, hml, hown, hts⟩ (c_X4_within l D cI cZ q 0 1 (by first | assumption | omega) (by first | assumption | omega) (by first | assumption | omega)) (va_cwS 3 hts gX4_worst_X4_within rfl rfl rfl (by decide +kernel) ⟨Nat.le_of_ble_eq_true rfl, Nat.le_of_ble_eq_true rfl⟩) hK (hP.sub (ws' := []) [] rfl) rfl hl.1 rfl (Nat.le_of_ble_eq_true rfl) dX4_worst_13 ⟨Nat.zero_le _, Nat.zero_le _⟩ rfl ?_
    refine kx_if_neB (tgt := 22) hx hb dX4_worst_16 (by decide) (fun h16 => ?_) (fun h16 => ?_)
    · skip
      refine lv_aload_n hx hb dX4_worst_22 rfl (lv_at hl 0 rfl) ?_
      refine va_get (D := D) (ci := 4) (v := .int (iI nd)) (C := RX4) (T := TX4) (N := 39) hx hb hts iX4 hown hK.1 hP 0 rfl rfl 2 (by decide) (hts (.fieldLink RX4 112 "CloseClocksModel" "nodes" "I") (by decide +kernel)) (fun _ h9 => h9) rfl dX4_worst_23 ?_
      refine kx_if_ne (tgt := 34) hx hb (by omega) dX4_worst_26 (by decide) (fun h26 => ?_) (fun h26 => ?_)
      · skip
        refine lv_aload_n hx hb dX4_worst_34 rfl (lv_at hl 0 rfl) ?_
        refine lv_iload_n hx hb dX4_worst_35 rfl (lv_at hl 1 rfl) ?_
        refine kx_top (b := ((z.toNat : Nat) : Int)) (by omega) ?_
        refine lv_iload_n hx hb dX4_worst_36 rfl (lv_at hl 2 rfl) ?_
        refine kx_cVW (As := [.int (iI ((z.toNat : Nat) : Int)), .int (iI q)]) (rest := []) (wr := []) (q0 := 0) (ci := 4) ⟨hx, hb, hml, hown, hts⟩ (c_X4_worstNow l D cI cZ h m1 m4 m5 m6 m7 m8 m9 m21 m22 m23 m24 m25 m26 m30 m31 m32 m33 m34 m35 pl nd lk st bo ti te nr ml nn nl du nO nT wm wb ik kt kl hh pg dl er ra ck fa ft nw tu tc tr tf tt kc kr ke kd kf kg (z.toNat) q (by first | assumption | omega) (by first | assumption | omega) (by first | assumption | omega) (by first | assumption | omega) (by first | assumption | omega) (by first | assumption | omega) (by first | assumption | omega) (by first | assumption | omega) (by first | assumption | omega) (by first | assumption | omega)) (cwV 2 hts gX4_worst_X4_worstNow rfl rfl rfl (by decide +kernel) ⟨Nat.le_of_ble_eq_true rfl, Nat.le_of_ble_eq_true rfl⟩) hK hP hD hS hA [0, 1, 2, 3, 4, 5, 6, 7, 8, 9, 10, 11, 12, 13, 14, 15, 16, 17, 18, 19] [] rfl rfl (by decide) (by decide) (by decide) rfl rfl rfl hl.1 rfl (Nat.le_of_ble_eq_true rfl) dX4_worst_37 ⟨Nat.le_of_ble_eq_true rfl, Nat.le_of_ble_eq_true rfl⟩ (fun u H locs hq hP hD hS => ?_)
        obtain ⟨u_1, hu⟩ : ∃ z, z = u := ⟨_, rfl⟩
        subst hu
        have hP : va_P D vwCl (mdW cI cZ h m1 m4 m5 m6 m7 m8 m9 m21 m22 m23 m24 m25 m26 m30 m31 m32 m33 m34 m35 pl nd lk st bo ti te nr ml nn nl du nO nT ((mW dl er ra nd st bo ck fa (z.toNat)).1) ((mW dl er ra nd st bo ck fa (z.toNat)).2 : Int) ik kt kl hh pg dl er ra ck fa ft nw u_1 ck ra fa ft kc kr ke kd kf kg) H := hP.sub [0, 1, 2, 3, 4, 5, 6, 7, 8, 9, 10, 11, 12, 13, 14, 15, 16, 17, 18, 19] rfl
        have hD : va_D A (mdW cI cZ h m1 m4 m5 m6 m7 m8 m9 m21 m22 m23 m24 m25 m26 m30 m31 m32 m33 m34 m35 pl nd lk st bo ti te nr ml nn nl du nO nT ((mW dl er ra nd st bo ck fa (z.toNat)).1) ((mW dl er ra nd st bo ck fa (z.toNat)).2 : Int) ik kt kl hh pg dl er ra ck fa ft nw u_1 ck ra fa ft kc kr ke kd kf kg) := hD.sub [0, 1, 2, 3, 4, 5, 6, 7, 8, 9, 10, 11, 12, 13, 14, 15, 16, 17, 18, 19] (by decide) rfl
        refine W.eq (g2 := F0 mi 40 ls [.int (iI (if q = 0 then (mW dl er ra nd st bo ck fa (z.toNat)).1 else ((mW dl er ra nd st bo ck fa (z.toNat)).2 : Int)))]) rfl ?_
        refine kx_top (b := (if ¬ ((1 ≤ z ∧ z ≤ 12) ∧ (0 ≤ q ∧ q ≤ 1)) then -100000003 else if nd = 0 then -100000004 else if q = 0 then (mW dl er ra nd st bo ck fa z.toNat).1 else ((mW dl er ra nd st bo ck fa z.toNat).2 : Int))) (by (repeat' split) <;> first | rfl | omega | contradiction | (exfalso; simp_all; done) | (exfalso; simp_all; omega)) ?_
        exact hret (u_1, (mW dl er ra nd st bo ck fa (z.toNat)).1, ((mW dl er ra nd st bo ck fa (z.toNat)).2 : Int), ck, ra, fa, ft) H locs _ _ (trivial) hP hD hS dX4_worst_40
      · skip
        refine kx_ldc (z := -100000004) hx hb hown (hts (.constant RX4 111 (-100000004)) (by decide +kernel)) dX4_worst_29 (by decide) ?_
        refine lv_goto (tgt := 40) hx hb dX4_worst_31 (by decide) ?_
        refine kx_top (b := (if ¬ ((1 ≤ z ∧ z ≤ 12) ∧ (0 ≤ q ∧ q ≤ 1)) then -100000003 else if nd = 0 then -100000004 else if q = 0 then (mW dl er ra nd st bo ck fa z.toNat).1 else ((mW dl er ra nd st bo ck fa z.toNat).2 : Int))) (by (repeat' split) <;> first | rfl | omega | contradiction | (exfalso; simp_all; done) | (exfalso; simp_all; omega)) ?_
        exact hret (tu, wm, wb, tc, tr, tf, tt) H locs _ _ (trivial) hP hD hS dX4_worst_40
    · skip
      refine kx_ldc (z := -100000003) hx hb hown (hts (.constant RX4 79 (-100000003)) (by decide +kernel)) dX4_worst_19 (by decide) ?_
      refine kx_top (b := (if ¬ ((1 ≤ z ∧ z ≤ 12) ∧ (0 ≤ q ∧ q ≤ 1)) then -100000003 else if nd = 0 then -100000004 else if q = 0 then (mW dl er ra nd st bo ck fa z.toNat).1 else ((mW dl er ra nd st bo ck fa z.toNat).2 : Int))) (by (repeat' split) <;> first | rfl | omega | contradiction | (exfalso; simp_all; done) | (exfalso; simp_all; omega)) ?_
      exact hret (tu, wm, wb, tc, tr, tf, tt) H locs _ _ (trivial) hP hD hS dX4_worst_21
