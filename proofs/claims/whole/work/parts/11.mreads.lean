def rm_X4_skewOf : Room := ({ frames := 0, cells := 0, slots := 0, locals := 0 } : Room)
set_option maxHeartbeats 4000000 in
set_option maxRecDepth 100000 in
theorem c_X4_skewOf (l : Launch) (D : va_G) (cI cZ : ClassId) (h m1 m4 m5 m6 m7 m8 m9 m21 m22 m23 m24 m25 m26 m30 m31 m32 m33 m34 m35 : Nat) (pl nd lk st bo ti te nr ml nn nl du nO nT wm wb ik kt kl : Int) (hh : Int64) (pg dl er ra ck fa ft nw tu tc tr tf tt kc kr ke kd kf kg : Nat → Int) (i j : Nat) (hi : i < 6) (hj : j < 6) (hck : ∀ k : Nat, k < 24 → 0 ≤ ck k ∧ ck k ≤ 50000000) : kRO l yX4_skewOf wsX4_skewOf rm_X4_skewOf D cI cZ [.ref h, .int (iI (i : Int)), .int (iI (j : Int))] (mdW cI cZ h m1 m4 m5 m6 m7 m8 m9 m21 m22 m23 m24 m25 m26 m30 m31 m32 m33 m34 m35 pl nd lk st bo ti te nr ml nn nl du nO nT wm wb ik kt kl hh pg dl er ra ck fa ft nw tu tc tr tf tt kc kr ke kd kf kg) (some (.int (iI (mSk ck i j)))) := by
  refine kx_ROi (cc := cX4_skewOf) (maxL := 4) (by decide) rfl (Nat.le_of_ble_eq_true rfl) ?_
  intro pr en s mi args below meth co Q hx hb hml hown hts hK hP hret ls hl
  have hown : s.vm.findClass RX4 = some mi.cls := hown
  have iX4 : ∀ w ∈ wsX40, w ∈ wsX4_skewOf := by decide +kernel
  have hl : lv_has ls 4 [(0, .ref h), (1, .int (iI (i : Int))), (2, .int (iI (j : Int)))] := hl
  refine lv_aload_n hx hb dX4_skewOf_0 rfl (lv_at hl 0 rfl) ?_
  refine va_get (D := D) (ci := 4) (v := .ref m7) (C := RX4) (T := TX4) (N := 39) hx hb hts iX4 hown hK.1 hP 0 rfl rfl 7 (by decide) (hts (.fieldLink RX4 22 "CloseClocksModel" "clockAt" "[I") (by decide +kernel)) (fun _ h9 => h9) rfl dX4_skewOf_1 ?_
  refine kx_const (z := 4) hx hb dX4_skewOf_4 rfl ?_
  refine lv_iload_n hx hb dX4_skewOf_5 rfl (lv_at hl 1 rfl) ?_
  refine kx_imul hx hb dX4_skewOf_6 ?_
  refine kx_iald (k := (4 * i)) hx hb hK hP 5 rfl (by omega) (by omega) (by decide) dX4_skewOf_7 ?_
  have rg_1 := hck (4 * i) (by omega)
  refine lv_aload_n hx hb dX4_skewOf_8 rfl (lv_at hl 0 rfl) ?_
  refine va_get (D := D) (ci := 4) (v := .ref m7) (C := RX4) (T := TX4) (N := 39) hx hb hts iX4 hown hK.1 hP 0 rfl rfl 7 (by decide) (hts (.fieldLink RX4 22 "CloseClocksModel" "clockAt" "[I") (by decide +kernel)) (fun _ h9 => h9) rfl dX4_skewOf_9 ?_
  refine kx_const (z := 4) hx hb dX4_skewOf_12 rfl ?_
  refine lv_iload_n hx hb dX4_skewOf_13 rfl (lv_at hl 2 rfl) ?_
  refine kx_imul hx hb dX4_skewOf_14 ?_
  refine kx_iald (k := (4 * j)) hx hb hK hP 5 rfl (by omega) (by omega) (by decide) dX4_skewOf_15 ?_
  have rg_2 := hck (4 * j) (by omega)
  refine kx_isub hx hb dX4_skewOf_16 ?_
  refine lv_istore_n (lv' := [(3, .int (iI ((ck (4 * i)) - (ck (4 * j))))), (0, .ref h), (1, .int (iI (i : Int))), (2, .int (iI (j : Int)))]) hx hb dX4_skewOf_17 rfl hl (by decide) rfl (fun ls hl => ?_)
  refine lv_iload_n hx hb dX4_skewOf_18 rfl (lv_at hl 0 rfl) ?_
  refine kx_if_ge (tgt := 27) hx hb (by omega) dX4_skewOf_19 (by decide) (fun h19 => ?_) (fun h19 => ?_)
  · skip
    refine lv_iload_n hx hb dX4_skewOf_27 rfl (lv_at hl 0 rfl) ?_
    refine kx_top (b := (mSk ck i j)) (by unfold mSk aD; first | (rw [if_pos (by omega)]) | (rw [if_neg (by omega)])) ?_
    exact hret _ _ dX4_skewOf_28
  · skip
    refine lv_iload_n hx hb dX4_skewOf_22 rfl (lv_at hl 0 rfl) ?_
    refine kx_ineg hx hb dX4_skewOf_23 ?_
    refine lv_goto (tgt := 28) hx hb dX4_skewOf_24 (by decide) ?_
    refine kx_top (b := (mSk ck i j)) (by unfold mSk aD; first | (rw [if_pos (by omega)]) | (rw [if_neg (by omega)])) ?_
    exact hret _ _ dX4_skewOf_28
def rm_X4_local : Room := ({ frames := 3, cells := 0, slots := 0, locals := 65 } : Room)
set_option maxHeartbeats 4000000 in
set_option maxRecDepth 100000 in
theorem c_X4_local (l : Launch) (D : va_G) (cI cZ : ClassId) (h m1 m4 m5 m6 m7 m8 m9 m21 m22 m23 m24 m25 m26 m30 m31 m32 m33 m34 m35 : Nat) (pl nd lk st bo ti te nr ml nn nl du nO nT wm wb ik kt kl : Int) (hh : Int64) (pg dl er ra ck fa ft nw tu tc tr tf tt kc kr ke kd kf kg : Nat → Int)  (hnd : 0 ≤ nd ∧ nd ≤ 6) (hdl : ∀ k : Nat, k < 36 → dl k = -100000001 ∨ (0 ≤ dl k ∧ dl k ≤ 3)) (hck : ∀ k : Nat, k < 24 → 0 ≤ ck k ∧ ck k ≤ 50000000) : kRO l yX4_local wsX4_local rm_X4_local D cI cZ [.ref h] (mdW cI cZ h m1 m4 m5 m6 m7 m8 m9 m21 m22 m23 m24 m25 m26 m30 m31 m32 m33 m34 m35 pl nd lk st bo ti te nr ml nn nl du nO nT wm wb ik kt kl hh pg dl er ra ck fa ft nw tu tc tr tf tt kc kr ke kd kf kg) (some (.int (iI (mLo ck dl nd)))) := by
  refine kx_ROi (cc := cX4_local) (maxL := 4) (by decide) rfl (Nat.le_of_ble_eq_true rfl) ?_
  intro pr en s mi args below meth co Q hx hb hml hown hts hK hP hret ls hl
  have hown : s.vm.findClass RX4 = some mi.cls := hown
  have iX4 : ∀ w ∈ wsX40, w ∈ wsX4_local := by decide +kernel
  have hl : lv_has ls 4 [(0, .ref h)] := hl
  refine kx_const (z := 0) hx hb dX4_local_0 rfl ?_
  refine lv_istore_n (lv' := [(1, .int (iI 0)), (0, .ref h)]) hx hb dX4_local_1 rfl hl (by decide) rfl (fun ls hl => ?_)
  refine kx_const (z := 0) hx hb dX4_local_2 rfl ?_
  refine lv_istore_n (lv' := [(2, .int (iI 0)), (1, .int (iI 0)), (0, .ref h)]) hx hb dX4_local_3 rfl hl (by decide) rfl (fun ls hl => ?_)
  have L4 : ∀ (fu : Nat) (v : Nat) (mo : Int), ((v : Int) ≤ nd) → (mo = dfm (mBn dl nd) (mSk ck) 0 v) → (0 ≤ mo ∧ mo ≤ 50000000) → nd.toNat - v < fu → ∀ ls : Array Slot, lv_has ls 4 [(0, .ref h), (1, .int (iI mo)), (2, .int (iI (v : Int)))] → W pr l en rm_X4_local s mi args below meth co s.heap [] 0 0 Q (F0 mi 4 ls []) := by
    intro fu
    induction fu with
    | zero =>
      intro v mo hv hmo hmr hfu
      exact absurd hfu (Nat.not_lt_zero _)
    | succ fu ih4 =>
      intro v mo hv hmo hmr hfu ls hl
      refine lv_iload_n hx hb dX4_local_4 rfl (lv_at hl 2 rfl) ?_
      refine lv_aload_n hx hb dX4_local_5 rfl (lv_at hl 0 rfl) ?_
      refine va_get (D := D) (ci := 4) (v := .int (iI nd)) (C := RX4) (T := TX4) (N := 39) hx hb hts iX4 hown hK.1 hP 0 rfl rfl 2 (by decide) (hts (.fieldLink RX4 112 "CloseClocksModel" "nodes" "I") (by decide +kernel)) (fun _ h9 => h9) rfl dX4_local_6 ?_
      refine kx_icmp_ge (tgt := 61) hx hb (by omega) (by omega) dX4_local_9 (by decide) (fun h9 => ?_) (fun h9 => ?_)
      · skip
        refine lv_iload_n hx hb dX4_local_61 rfl (lv_at hl 1 rfl) ?_
        refine kx_top (b := (mLo ck dl nd)) (by have hve : v = nd.toNat := (by omega); rw [hmo, hve]; rfl) ?_
        exact hret _ _ dX4_local_62
      · skip
        refine kx_const (z := 0) hx hb dX4_local_12 rfl ?_
        refine lv_istore_n (lv' := [(3, .int (iI 0)), (0, .ref h), (1, .int (iI mo)), (2, .int (iI (v : Int)))]) hx hb dX4_local_13 rfl hl (by decide) rfl (fun ls hl => ?_)
        have L14 : ∀ (fu : Nat) (w : Nat) (mo2 : Int), (w ≤ v) → (mo2 = fmx (mBn dl nd v) (mSk ck v) (dfm (mBn dl nd) (mSk ck) 0 v) w) → (0 ≤ mo2 ∧ mo2 ≤ 50000000) → v - w < fu → ∀ ls : Array Slot, lv_has ls 4 [(0, .ref h), (1, .int (iI mo2)), (2, .int (iI (v : Int))), (3, .int (iI (w : Int)))] → W pr l en rm_X4_local s mi args below meth co s.heap [] 0 0 Q (F0 mi 14 ls []) := by
          intro fu
          induction fu with
          | zero =>
            intro w mo2 hw hmo2 hmr2 hfu
            exact absurd hfu (Nat.not_lt_zero _)
          | succ fu ih14 =>
            intro w mo2 hw hmo2 hmr2 hfu ls hl
            refine lv_iload_n hx hb dX4_local_14 rfl (lv_at hl 3 rfl) ?_
            refine lv_iload_n hx hb dX4_local_15 rfl (lv_at hl 2 rfl) ?_
            refine kx_icmp_ge (tgt := 55) hx hb (by omega) (by omega) dX4_local_16 (by decide) (fun h16 => ?_) (fun h16 => ?_)
            · skip
              refine kx_iinc (z := ((v + 1 : Nat) : Int)) (lv' := [(2, .int (iI ((v + 1 : Nat) : Int))), (0, .ref h), (1, .int (iI mo2)), (3, .int (iI (w : Int)))]) hx hb dX4_local_55 hl (k0 := 2) rfl (by omega) (by decide) rfl (fun ls hl => ?_)
              refine lv_goto (tgt := 4) hx hb dX4_local_58 (by decide) ?_
              exact ih4 (v + 1) mo2 (by first | assumption | omega) (by have hwv : w = v := (by omega); rw [hmo2, hwv]; rfl) (by first | assumption | omega) (by omega) ls (lv_sub hl [1, 2, 0] rfl)
            · skip
              have hsk := mSk_rng hck (show v < 6 by omega) (show w < 6 by omega)
              refine lv_aload_n hx hb dX4_local_19 rfl (lv_at hl 0 rfl) ?_
              refine lv_iload_n hx hb dX4_local_20 rfl (lv_at hl 2 rfl) ?_
              refine lv_iload_n hx hb dX4_local_21 rfl (lv_at hl 3 rfl) ?_
              refine kx_cV (As := [.int (iI (v : Int)), .int (iI (w : Int))]) (rest := []) (st1 := [.int (iI (if (mB dl nd (v : Int) (w : Int) = true) then 1 else 0))]) (q0 := 0) (ci := 4) ⟨hx, hb, hml, hown, hts⟩ (c_X4_areBeside l D cI cZ h m1 m4 m5 m6 m7 m8 m9 m21 m22 m23 m24 m25 m26 m30 m31 m32 m33 m34 m35 pl nd lk st bo ti te nr ml nn nl du nO nT wm wb ik kt kl hh pg dl er ra ck fa ft nw tu tc tr tf tt kc kr ke kd kf kg (v : Int) (w : Int) (by first | assumption | omega) (by first | assumption | omega) (by first | assumption | omega) (by first | assumption | omega)) (cwV 2 hts gX4_local_X4_areBeside rfl rfl rfl (by decide +kernel) ⟨Nat.le_of_ble_eq_true rfl, Nat.le_of_ble_eq_true rfl⟩) hK hP rfl rfl rfl hl.1 rfl (Nat.le_of_ble_eq_true rfl) dX4_local_22 ⟨Nat.zero_le _, Nat.zero_le _⟩ rfl ?_
              refine kx_if_eqB (tgt := 47) hx hb dX4_local_25 (by decide) (fun h25 => ?_) (fun h25 => ?_)
              · skip
                refine lv_iload_n hx hb dX4_local_47 rfl (lv_at hl 1 rfl) ?_
                refine lv_istore_n (lv' := [(1, .int (iI mo2)), (0, .ref h), (2, .int (iI (v : Int))), (3, .int (iI (w : Int)))]) hx hb dX4_local_48 rfl hl (by decide) rfl (fun ls hl => ?_)
                refine kx_iinc (z := ((w + 1 : Nat) : Int)) (lv' := [(3, .int (iI ((w + 1 : Nat) : Int))), (1, .int (iI mo2)), (0, .ref h), (2, .int (iI (v : Int)))]) hx hb dX4_local_49 hl (k0 := 3) rfl (by omega) (by decide) rfl (fun ls hl => ?_)
                refine lv_goto (tgt := 14) hx hb dX4_local_52 (by decide) ?_
                exact ih14 (w + 1) mo2 (by first | assumption | omega) (by first | exact (fmx_yes (P := mBn dl nd v) (f := mSk ck v) h25 (by rw [← hmo2]; exact h35)).symm | exact hmo2.trans (fmx_no (fun q => by first | exact h25 q.1 | (have q2 := q.2; rw [← hmo2] at q2; omega))).symm) (by first | assumption | omega) (by omega) ls (lv_sub hl [2, 1, 3, 0] rfl)
              · skip
                refine lv_aload_n hx hb dX4_local_28 rfl (lv_at hl 0 rfl) ?_
                refine lv_iload_n hx hb dX4_local_29 rfl (lv_at hl 2 rfl) ?_
                refine lv_iload_n hx hb dX4_local_30 rfl (lv_at hl 3 rfl) ?_
                refine kx_cV (As := [.int (iI (v : Int)), .int (iI (w : Int))]) (rest := []) (st1 := [.int (iI (mSk ck v w))]) (q0 := 0) (ci := 4) ⟨hx, hb, hml, hown, hts⟩ (c_X4_skewOf l D cI cZ h m1 m4 m5 m6 m7 m8 m9 m21 m22 m23 m24 m25 m26 m30 m31 m32 m33 m34 m35 pl nd lk st bo ti te nr ml nn nl du nO nT wm wb ik kt kl hh pg dl er ra ck fa ft nw tu tc tr tf tt kc kr ke kd kf kg v w (by first | assumption | omega) (by first | assumption | omega) (by first | assumption | omega)) (cwV 2 hts gX4_local_X4_skewOf rfl rfl rfl (by decide +kernel) ⟨Nat.le_of_ble_eq_true rfl, Nat.le_of_ble_eq_true rfl⟩) hK hP rfl rfl rfl hl.1 rfl (Nat.le_of_ble_eq_true rfl) dX4_local_31 ⟨Nat.zero_le _, Nat.zero_le _⟩ rfl ?_
                refine lv_iload_n hx hb dX4_local_34 rfl (lv_at hl 1 rfl) ?_
                refine kx_icmp_le (tgt := 47) hx hb (by omega) (by omega) dX4_local_35 (by decide) (fun h35 => ?_) (fun h35 => ?_)
                · skip
                  refine lv_iload_n hx hb dX4_local_47 rfl (lv_at hl 1 rfl) ?_
                  refine lv_istore_n (lv' := [(1, .int (iI mo2)), (0, .ref h), (2, .int (iI (v : Int))), (3, .int (iI (w : Int)))]) hx hb dX4_local_48 rfl hl (by decide) rfl (fun ls hl => ?_)
                  refine kx_iinc (z := ((w + 1 : Nat) : Int)) (lv' := [(3, .int (iI ((w + 1 : Nat) : Int))), (1, .int (iI mo2)), (0, .ref h), (2, .int (iI (v : Int)))]) hx hb dX4_local_49 hl (k0 := 3) rfl (by omega) (by decide) rfl (fun ls hl => ?_)
                  refine lv_goto (tgt := 14) hx hb dX4_local_52 (by decide) ?_
                  exact ih14 (w + 1) mo2 (by first | assumption | omega) (by first | exact (fmx_yes (P := mBn dl nd v) (f := mSk ck v) h25 (by rw [← hmo2]; exact h35)).symm | exact hmo2.trans (fmx_no (fun q => by first | exact h25 q.1 | (have q2 := q.2; rw [← hmo2] at q2; omega))).symm) (by first | assumption | omega) (by omega) ls (lv_sub hl [2, 1, 3, 0] rfl)
                · skip
                  refine lv_aload_n hx hb dX4_local_38 rfl (lv_at hl 0 rfl) ?_
                  refine lv_iload_n hx hb dX4_local_39 rfl (lv_at hl 2 rfl) ?_
                  refine lv_iload_n hx hb dX4_local_40 rfl (lv_at hl 3 rfl) ?_
                  refine kx_cV (As := [.int (iI (v : Int)), .int (iI (w : Int))]) (rest := []) (st1 := [.int (iI (mSk ck v w))]) (q0 := 0) (ci := 4) ⟨hx, hb, hml, hown, hts⟩ (c_X4_skewOf l D cI cZ h m1 m4 m5 m6 m7 m8 m9 m21 m22 m23 m24 m25 m26 m30 m31 m32 m33 m34 m35 pl nd lk st bo ti te nr ml nn nl du nO nT wm wb ik kt kl hh pg dl er ra ck fa ft nw tu tc tr tf tt kc kr ke kd kf kg v w (by first | assumption | omega) (by first | assumption | omega) (by first | assumption | omega)) (cwV 2 hts gX4_local_X4_skewOf rfl rfl rfl (by decide +kernel) ⟨Nat.le_of_ble_eq_true rfl, Nat.le_of_ble_eq_true rfl⟩) hK hP rfl rfl rfl hl.1 rfl (Nat.le_of_ble_eq_true rfl) dX4_local_41 ⟨Nat.zero_le _, Nat.zero_le _⟩ rfl ?_
                  refine lv_goto (tgt := 48) hx hb dX4_local_44 (by decide) ?_
                  refine lv_istore_n (lv' := [(1, .int (iI (mSk ck v w))), (0, .ref h), (2, .int (iI (v : Int))), (3, .int (iI (w : Int)))]) hx hb dX4_local_48 rfl hl (by decide) rfl (fun ls hl => ?_)
                  refine kx_iinc (z := ((w + 1 : Nat) : Int)) (lv' := [(3, .int (iI ((w + 1 : Nat) : Int))), (1, .int (iI (mSk ck v w))), (0, .ref h), (2, .int (iI (v : Int)))]) hx hb dX4_local_49 hl (k0 := 3) rfl (by omega) (by decide) rfl (fun ls hl => ?_)
                  refine lv_goto (tgt := 14) hx hb dX4_local_52 (by decide) ?_
                  exact ih14 (w + 1) (mSk ck v w) (by first | assumption | omega) (by first | exact (fmx_yes (P := mBn dl nd v) (f := mSk ck v) h25 (by rw [← hmo2]; exact h35)).symm | exact hmo2.trans (fmx_no (fun q => by first | exact h25 q.1 | (have q2 := q.2; rw [← hmo2] at q2; omega))).symm) (by first | assumption | omega) (by omega) ls (lv_sub hl [2, 1, 3, 0] rfl)
        exact L14 (v - 0 + 1) 0 mo (by first | assumption | omega) (hmo) (by first | assumption | omega) (Nat.lt_succ_self _) ls (lv_sub hl [1, 2, 3, 0] rfl)
  exact L4 (nd.toNat - 0 + 1) 0 0 (by first | assumption | omega) (rfl) (by first | assumption | omega) (Nat.lt_succ_self _) ls (lv_sub hl [2, 1, 0] rfl)
def rm_X4_global : Room := ({ frames := 1, cells := 0, slots := 0, locals := 23 } : Room)
set_option maxHeartbeats 4000000 in
set_option maxRecDepth 100000 in
theorem c_X4_global (l : Launch) (D : va_G) (cI cZ : ClassId) (h m1 m4 m5 m6 m7 m8 m9 m21 m22 m23 m24 m25 m26 m30 m31 m32 m33 m34 m35 : Nat) (pl nd lk st bo ti te nr ml nn nl du nO nT wm wb ik kt kl : Int) (hh : Int64) (pg dl er ra ck fa ft nw tu tc tr tf tt kc kr ke kd kf kg : Nat → Int)  (hnd : 0 ≤ nd ∧ nd ≤ 6) (hck : ∀ k : Nat, k < 24 → 0 ≤ ck k ∧ ck k ≤ 50000000) : kRO l yX4_global wsX4_global rm_X4_global D cI cZ [.ref h] (mdW cI cZ h m1 m4 m5 m6 m7 m8 m9 m21 m22 m23 m24 m25 m26 m30 m31 m32 m33 m34 m35 pl nd lk st bo ti te nr ml nn nl du nO nT wm wb ik kt kl hh pg dl er ra ck fa ft nw tu tc tr tf tt kc kr ke kd kf kg) (some (.int (iI (mGl ck nd)))) := by
  refine kx_ROi (cc := cX4_global) (maxL := 4) (by decide) rfl (Nat.le_of_ble_eq_true rfl) ?_
  intro pr en s mi args below meth co Q hx hb hml hown hts hK hP hret ls hl
  have hown : s.vm.findClass RX4 = some mi.cls := hown
  have iX4 : ∀ w ∈ wsX40, w ∈ wsX4_global := by decide +kernel
  have hl : lv_has ls 4 [(0, .ref h)] := hl
  refine kx_const (z := 0) hx hb dX4_global_0 rfl ?_
  refine lv_istore_n (lv' := [(1, .int (iI 0)), (0, .ref h)]) hx hb dX4_global_1 rfl hl (by decide) rfl (fun ls hl => ?_)
  refine kx_const (z := 0) hx hb dX4_global_2 rfl ?_
  refine lv_istore_n (lv' := [(2, .int (iI 0)), (1, .int (iI 0)), (0, .ref h)]) hx hb dX4_global_3 rfl hl (by decide) rfl (fun ls hl => ?_)
  have L4 : ∀ (fu : Nat) (v : Nat) (mo : Int), ((v : Int) ≤ nd) → (mo = dfm mTt (mSk ck) 0 v) → (0 ≤ mo ∧ mo ≤ 50000000) → nd.toNat - v < fu → ∀ ls : Array Slot, lv_has ls 4 [(0, .ref h), (1, .int (iI mo)), (2, .int (iI (v : Int)))] → W pr l en rm_X4_global s mi args below meth co s.heap [] 0 0 Q (F0 mi 4 ls []) := by
    intro fu
    induction fu with
    | zero =>
      intro v mo hv hmo hmr hfu
      exact absurd hfu (Nat.not_lt_zero _)
    | succ fu ih4 =>
      intro v mo hv hmo hmr hfu ls hl
      refine lv_iload_n hx hb dX4_global_4 rfl (lv_at hl 2 rfl) ?_
      refine lv_aload_n hx hb dX4_global_5 rfl (lv_at hl 0 rfl) ?_
      refine va_get (D := D) (ci := 4) (v := .int (iI nd)) (C := RX4) (T := TX4) (N := 39) hx hb hts iX4 hown hK.1 hP 0 rfl rfl 2 (by decide) (hts (.fieldLink RX4 112 "CloseClocksModel" "nodes" "I") (by decide +kernel)) (fun _ h9 => h9) rfl dX4_global_6 ?_
      refine kx_icmp_ge (tgt := 52) hx hb (by omega) (by omega) dX4_global_9 (by decide) (fun h9 => ?_) (fun h9 => ?_)
      · skip
        refine lv_iload_n hx hb dX4_global_52 rfl (lv_at hl 1 rfl) ?_
        refine kx_top (b := (mGl ck nd)) (by have hve : v = nd.toNat := (by omega); rw [hmo, hve]; rfl) ?_
        exact hret _ _ dX4_global_53
      · skip
        refine kx_const (z := 0) hx hb dX4_global_12 rfl ?_
        refine lv_istore_n (lv' := [(3, .int (iI 0)), (0, .ref h), (1, .int (iI mo)), (2, .int (iI (v : Int)))]) hx hb dX4_global_13 rfl hl (by decide) rfl (fun ls hl => ?_)
        have L14 : ∀ (fu : Nat) (w : Nat) (mo2 : Int), (w ≤ v) → (mo2 = fmx (mTt v) (mSk ck v) (dfm mTt (mSk ck) 0 v) w) → (0 ≤ mo2 ∧ mo2 ≤ 50000000) → v - w < fu → ∀ ls : Array Slot, lv_has ls 4 [(0, .ref h), (1, .int (iI mo2)), (2, .int (iI (v : Int))), (3, .int (iI (w : Int)))] → W pr l en rm_X4_global s mi args below meth co s.heap [] 0 0 Q (F0 mi 14 ls []) := by
          intro fu
          induction fu with
          | zero =>
            intro w mo2 hw hmo2 hmr2 hfu
            exact absurd hfu (Nat.not_lt_zero _)
          | succ fu ih14 =>
            intro w mo2 hw hmo2 hmr2 hfu ls hl
            refine lv_iload_n hx hb dX4_global_14 rfl (lv_at hl 3 rfl) ?_
            refine lv_iload_n hx hb dX4_global_15 rfl (lv_at hl 2 rfl) ?_
            refine kx_icmp_ge (tgt := 46) hx hb (by omega) (by omega) dX4_global_16 (by decide) (fun h16 => ?_) (fun h16 => ?_)
            · skip
              refine kx_iinc (z := ((v + 1 : Nat) : Int)) (lv' := [(2, .int (iI ((v + 1 : Nat) : Int))), (0, .ref h), (1, .int (iI mo2)), (3, .int (iI (w : Int)))]) hx hb dX4_global_46 hl (k0 := 2) rfl (by omega) (by decide) rfl (fun ls hl => ?_)
              refine lv_goto (tgt := 4) hx hb dX4_global_49 (by decide) ?_
              exact ih4 (v + 1) mo2 (by first | assumption | omega) (by have hwv : w = v := (by omega); rw [hmo2, hwv]; rfl) (by first | assumption | omega) (by omega) ls (lv_sub hl [1, 2, 0] rfl)
            · skip
              have hsk := mSk_rng hck (show v < 6 by omega) (show w < 6 by omega)
              refine lv_aload_n hx hb dX4_global_19 rfl (lv_at hl 0 rfl) ?_
              refine lv_iload_n hx hb dX4_global_20 rfl (lv_at hl 2 rfl) ?_
              refine lv_iload_n hx hb dX4_global_21 rfl (lv_at hl 3 rfl) ?_
              refine kx_cV (As := [.int (iI (v : Int)), .int (iI (w : Int))]) (rest := []) (st1 := [.int (iI (mSk ck v w))]) (q0 := 0) (ci := 4) ⟨hx, hb, hml, hown, hts⟩ (c_X4_skewOf l D cI cZ h m1 m4 m5 m6 m7 m8 m9 m21 m22 m23 m24 m25 m26 m30 m31 m32 m33 m34 m35 pl nd lk st bo ti te nr ml nn nl du nO nT wm wb ik kt kl hh pg dl er ra ck fa ft nw tu tc tr tf tt kc kr ke kd kf kg v w (by first | assumption | omega) (by first | assumption | omega) (by first | assumption | omega)) (cwV 2 hts gX4_global_X4_skewOf rfl rfl rfl (by decide +kernel) ⟨Nat.le_of_ble_eq_true rfl, Nat.le_of_ble_eq_true rfl⟩) hK hP rfl rfl rfl hl.1 rfl (Nat.le_of_ble_eq_true rfl) dX4_global_22 ⟨Nat.zero_le _, Nat.zero_le _⟩ rfl ?_
              refine lv_iload_n hx hb dX4_global_25 rfl (lv_at hl 1 rfl) ?_
              refine kx_icmp_le (tgt := 38) hx hb (by omega) (by omega) dX4_global_26 (by decide) (fun h26 => ?_) (fun h26 => ?_)
              · skip
                refine lv_iload_n hx hb dX4_global_38 rfl (lv_at hl 1 rfl) ?_
                refine lv_istore_n (lv' := [(1, .int (iI mo2)), (0, .ref h), (2, .int (iI (v : Int))), (3, .int (iI (w : Int)))]) hx hb dX4_global_39 rfl hl (by decide) rfl (fun ls hl => ?_)
                refine kx_iinc (z := ((w + 1 : Nat) : Int)) (lv' := [(3, .int (iI ((w + 1 : Nat) : Int))), (1, .int (iI mo2)), (0, .ref h), (2, .int (iI (v : Int)))]) hx hb dX4_global_40 hl (k0 := 3) rfl (by omega) (by decide) rfl (fun ls hl => ?_)
                refine lv_goto (tgt := 14) hx hb dX4_global_43 (by decide) ?_
                exact ih14 (w + 1) mo2 (by first | assumption | omega) (by first | exact (fmx_yes (P := mTt v) (f := mSk ck v) rfl (by rw [← hmo2]; exact h26)).symm | exact hmo2.trans (fmx_no (fun q => by have q2 := q.2; rw [← hmo2] at q2; omega)).symm) (by first | assumption | omega) (by omega) ls (lv_sub hl [2, 1, 3, 0] rfl)
              · skip
                refine lv_aload_n hx hb dX4_global_29 rfl (lv_at hl 0 rfl) ?_
                refine lv_iload_n hx hb dX4_global_30 rfl (lv_at hl 2 rfl) ?_
                refine lv_iload_n hx hb dX4_global_31 rfl (lv_at hl 3 rfl) ?_
                refine kx_cV (As := [.int (iI (v : Int)), .int (iI (w : Int))]) (rest := []) (st1 := [.int (iI (mSk ck v w))]) (q0 := 0) (ci := 4) ⟨hx, hb, hml, hown, hts⟩ (c_X4_skewOf l D cI cZ h m1 m4 m5 m6 m7 m8 m9 m21 m22 m23 m24 m25 m26 m30 m31 m32 m33 m34 m35 pl nd lk st bo ti te nr ml nn nl du nO nT wm wb ik kt kl hh pg dl er ra ck fa ft nw tu tc tr tf tt kc kr ke kd kf kg v w (by first | assumption | omega) (by first | assumption | omega) (by first | assumption | omega)) (cwV 2 hts gX4_global_X4_skewOf rfl rfl rfl (by decide +kernel) ⟨Nat.le_of_ble_eq_true rfl, Nat.le_of_ble_eq_true rfl⟩) hK hP rfl rfl rfl hl.1 rfl (Nat.le_of_ble_eq_true rfl) dX4_global_32 ⟨Nat.zero_le _, Nat.zero_le _⟩ rfl ?_
                refine lv_goto (tgt := 39) hx hb dX4_global_35 (by decide) ?_
                refine lv_istore_n (lv' := [(1, .int (iI (mSk ck v w))), (0, .ref h), (2, .int (iI (v : Int))), (3, .int (iI (w : Int)))]) hx hb dX4_global_39 rfl hl (by decide) rfl (fun ls hl => ?_)
                refine kx_iinc (z := ((w + 1 : Nat) : Int)) (lv' := [(3, .int (iI ((w + 1 : Nat) : Int))), (1, .int (iI (mSk ck v w))), (0, .ref h), (2, .int (iI (v : Int)))]) hx hb dX4_global_40 hl (k0 := 3) rfl (by omega) (by decide) rfl (fun ls hl => ?_)
                refine lv_goto (tgt := 14) hx hb dX4_global_43 (by decide) ?_
                exact ih14 (w + 1) (mSk ck v w) (by first | assumption | omega) (by first | exact (fmx_yes (P := mTt v) (f := mSk ck v) rfl (by rw [← hmo2]; exact h26)).symm | exact hmo2.trans (fmx_no (fun q => by have q2 := q.2; rw [← hmo2] at q2; omega)).symm) (by first | assumption | omega) (by omega) ls (lv_sub hl [2, 1, 3, 0] rfl)
        exact L14 (v - 0 + 1) 0 mo (by first | assumption | omega) (hmo) (by first | assumption | omega) (Nat.lt_succ_self _) ls (lv_sub hl [1, 2, 3, 0] rfl)
  exact L4 (nd.toNat - 0 + 1) 0 0 (by first | assumption | omega) (rfl) (by first | assumption | omega) (Nat.lt_succ_self _) ls (lv_sub hl [2, 1, 0] rfl)
def rm_X4_levelNow : Room := ({ frames := 4, cells := 0, slots := 0, locals := 88 } : Room)
set_option maxHeartbeats 4000000 in
set_option maxRecDepth 100000 in
theorem c_X4_levelNow (l : Launch) (D : va_G) (cI cZ : ClassId) (h m1 m4 m5 m6 m7 m8 m9 m21 m22 m23 m24 m25 m26 m30 m31 m32 m33 m34 m35 : Nat) (pl nd lk st bo ti te nr ml nn nl du nO nT wm wb ik kt kl : Int) (hh : Int64) (pg dl er ra ck fa ft nw tu tc tr tf tt kc kr ke kd kf kg : Nat → Int)  (hnd : 0 ≤ nd ∧ nd ≤ 6) (hdl : ∀ k : Nat, k < 36 → dl k = -100000001 ∨ (0 ≤ dl k ∧ dl k ≤ 3)) (hck : ∀ k : Nat, k < 24 → 0 ≤ ck k ∧ ck k ≤ 50000000) (hst : 1 ≤ st ∧ st ≤ 500) : kRO l yX4_levelNow wsX4_levelNow rm_X4_levelNow D cI cZ [.ref h] (mdW cI cZ h m1 m4 m5 m6 m7 m8 m9 m21 m22 m23 m24 m25 m26 m30 m31 m32 m33 m34 m35 pl nd lk st bo ti te nr ml nn nl du nO nT wm wb ik kt kl hh pg dl er ra ck fa ft nw tu tc tr tf tt kc kr ke kd kf kg) (some (.int (iI (mLv ck dl nd st)))) := by
  refine kx_ROi (cc := cX4_levelNow) (maxL := 1) (by decide) rfl (Nat.le_of_ble_eq_true rfl) ?_
  intro pr en s mi args below meth co Q hx hb hml hown hts hK hP hret ls hl
  have hown : s.vm.findClass RX4 = some mi.cls := hown
  have hl : lv_has ls 1 [(0, .ref h)] := hl
  have hlr := mLo_rng (dl := dl) hck hnd
  have hfi := mFi_bd (a := mLo ck dl nd) hst (Or.inl rfl : (1 : Int) = 1 ∨ (1 : Int) = 2) (by omega)
  refine lv_aload_n hx hb dX4_levelNow_0 rfl (lv_at hl 0 rfl) ?_
  refine lv_aload_n hx hb dX4_levelNow_1 rfl (lv_at hl 0 rfl) ?_
  refine kx_cV (As := []) (rest := [.ref h]) (st1 := [.int (iI (mLo ck dl nd)), .ref h]) (q0 := 0) (ci := 4) ⟨hx, hb, hml, hown, hts⟩ (c_X4_local l D cI cZ h m1 m4 m5 m6 m7 m8 m9 m21 m22 m23 m24 m25 m26 m30 m31 m32 m33 m34 m35 pl nd lk st bo ti te nr ml nn nl du nO nT wm wb ik kt kl hh pg dl er ra ck fa ft nw tu tc tr tf tt kc kr ke kd kf kg (by first | assumption | omega) (by first | assumption | omega) (by first | assumption | omega)) (cwV 0 hts gX4_levelNow_X4_local rfl rfl rfl (by decide +kernel) ⟨Nat.le_of_ble_eq_true rfl, Nat.le_of_ble_eq_true rfl⟩) hK hP rfl rfl rfl hl.1 rfl (Nat.le_of_ble_eq_true rfl) dX4_levelNow_2 ⟨Nat.zero_le _, Nat.zero_le _⟩ rfl ?_
  refine kx_const (z := 1) hx hb dX4_levelNow_5 rfl ?_
  refine kx_cV (As := [.int (iI (mLo ck dl nd)), .int (iI 1)]) (rest := []) (st1 := [.int (iI (mFi st (mLo ck dl nd) 1))]) (q0 := 0) (ci := 4) ⟨hx, hb, hml, hown, hts⟩ (c_X4_firstOf l D cI cZ h m1 m4 m5 m6 m7 m8 m9 m21 m22 m23 m24 m25 m26 m30 m31 m32 m33 m34 m35 pl nd lk st bo ti te nr ml nn nl du nO nT wm wb ik kt kl hh pg dl er ra ck fa ft nw tu tc tr tf tt kc kr ke kd kf kg (mLo ck dl nd) 1 (by first | assumption | omega) (by first | assumption | omega) (by first | assumption | omega)) (cwV 2 hts gX4_levelNow_X4_firstOf rfl rfl rfl (by decide +kernel) ⟨Nat.le_of_ble_eq_true rfl, Nat.le_of_ble_eq_true rfl⟩) hK hP rfl rfl rfl hl.1 rfl (Nat.le_of_ble_eq_true rfl) dX4_levelNow_6 ⟨Nat.zero_le _, Nat.zero_le _⟩ rfl ?_
  refine kx_const (z := 1) hx hb dX4_levelNow_9 rfl ?_
  refine kx_isub hx hb dX4_levelNow_10 ?_
  refine kx_const (z := 2) hx hb dX4_levelNow_11 rfl ?_
  refine kx_idiv hx hb (by omega) (by omega) dX4_levelNow_12 ?_
  refine kx_top (b := (mLv ck dl nd st)) (by unfold mLv; rfl) ?_
  exact hret _ _ dX4_levelNow_13
def rm_X4_skewNow : Room := ({ frames := 5, cells := 0, slots := 0, locals := 108 } : Room)
set_option maxHeartbeats 4000000 in
set_option maxRecDepth 100000 in
theorem c_X4_skewNow (l : Launch) (D : va_G) (cI cZ : ClassId) (h m1 m4 m5 m6 m7 m8 m9 m21 m22 m23 m24 m25 m26 m30 m31 m32 m33 m34 m35 : Nat) (pl nd lk st bo ti te nr ml nn nl du nO nT wm wb ik kt kl : Int) (hh : Int64) (pg dl er ra ck fa ft nw tu tc tr tf tt kc kr ke kd kf kg : Nat → Int) (z : Int) (hnd : 0 ≤ nd ∧ nd ≤ 6) (hdl : ∀ k : Nat, k < 36 → dl k = -100000001 ∨ (0 ≤ dl k ∧ dl k ≤ 3)) (hck : ∀ k : Nat, k < 24 → 0 ≤ ck k ∧ ck k ≤ 50000000) (hst : 1 ≤ st ∧ st ≤ 500) (hz : -2147483648 ≤ z ∧ z < 2147483648) : kRO l yX4_skewNow wsX4_skewNow rm_X4_skewNow D cI cZ [.ref h, .int (iI z)] (mdW cI cZ h m1 m4 m5 m6 m7 m8 m9 m21 m22 m23 m24 m25 m26 m30 m31 m32 m33 m34 m35 pl nd lk st bo ti te nr ml nn nl du nO nT wm wb ik kt kl hh pg dl er ra ck fa ft nw tu tc tr tf tt kc kr ke kd kf kg) (some (.int (iI (mSn ck dl nd st ml z)))) := by
  refine kx_ROi (cc := cX4_skewNow) (maxL := 2) (by decide) rfl (Nat.le_of_ble_eq_true rfl) ?_
  intro pr en s mi args below meth co Q hx hb hml hown hts hK hP hret ls hl
  have hown : s.vm.findClass RX4 = some mi.cls := hown
  have iX4 : ∀ w ∈ wsX40, w ∈ wsX4_skewNow := by decide +kernel
  have hl : lv_has ls 2 [(0, .ref h), (1, .int (iI z))] := hl
  refine lv_iload_n hx hb dX4_skewNow_0 rfl (lv_at hl 1 rfl) ?_
  refine kx_if_ne (tgt := 11) hx hb (by omega) dX4_skewNow_1 (by decide) (fun h1 => ?_) (fun h1 => ?_)
  · skip
    refine lv_iload_n hx hb dX4_skewNow_11 rfl (lv_at hl 1 rfl) ?_
    refine kx_const (z := 1) hx hb dX4_skewNow_12 rfl ?_
    refine kx_icmp_ne (tgt := 23) hx hb (by omega) (by omega) dX4_skewNow_13 (by decide) (fun h13 => ?_) (fun h13 => ?_)
    · skip
      refine lv_iload_n hx hb dX4_skewNow_23 rfl (lv_at hl 1 rfl) ?_
      refine kx_const (z := 2) hx hb dX4_skewNow_24 rfl ?_
      refine kx_icmp_ne (tgt := 35) hx hb (by omega) (by omega) dX4_skewNow_25 (by decide) (fun h25 => ?_) (fun h25 => ?_)
      · skip
        refine lv_aload_n hx hb dX4_skewNow_35 rfl (lv_at hl 0 rfl) ?_
        refine va_get (D := D) (ci := 4) (v := .int (iI ml)) (C := RX4) (T := TX4) (N := 39) hx hb hts iX4 hown hK.1 hP 0 rfl rfl 15 (by decide) (hts (.fieldLink RX4 125 "CloseClocksModel" "mostLocal" "I") (by decide +kernel)) (fun _ h9 => h9) rfl dX4_skewNow_36 ?_
        refine kx_top (b := (mSn ck dl nd st ml z)) (by unfold mSn; (repeat' split) <;> first | rfl | omega) ?_
        exact hret _ _ dX4_skewNow_39
      · skip
        refine lv_aload_n hx hb dX4_skewNow_28 rfl (lv_at hl 0 rfl) ?_
        refine kx_cV (As := []) (rest := []) (st1 := [.int (iI (mLv ck dl nd st))]) (q0 := 0) (ci := 4) ⟨hx, hb, hml, hown, hts⟩ (c_X4_levelNow l D cI cZ h m1 m4 m5 m6 m7 m8 m9 m21 m22 m23 m24 m25 m26 m30 m31 m32 m33 m34 m35 pl nd lk st bo ti te nr ml nn nl du nO nT wm wb ik kt kl hh pg dl er ra ck fa ft nw tu tc tr tf tt kc kr ke kd kf kg (by first | assumption | omega) (by first | assumption | omega) (by first | assumption | omega) (by first | assumption | omega)) (cwV 0 hts gX4_skewNow_X4_levelNow rfl rfl rfl (by decide +kernel) ⟨Nat.le_of_ble_eq_true rfl, Nat.le_of_ble_eq_true rfl⟩) hK hP rfl rfl rfl hl.1 rfl (Nat.le_of_ble_eq_true rfl) dX4_skewNow_29 ⟨Nat.zero_le _, Nat.zero_le _⟩ rfl ?_
        refine lv_goto (tgt := 39) hx hb dX4_skewNow_32 (by decide) ?_
        refine kx_top (b := (mSn ck dl nd st ml z)) (by unfold mSn; (repeat' split) <;> first | rfl | omega) ?_
        exact hret _ _ dX4_skewNow_39
    · skip
      refine lv_aload_n hx hb dX4_skewNow_16 rfl (lv_at hl 0 rfl) ?_
      refine kx_cV (As := []) (rest := []) (st1 := [.int (iI (mGl ck nd))]) (q0 := 0) (ci := 4) ⟨hx, hb, hml, hown, hts⟩ (c_X4_global l D cI cZ h m1 m4 m5 m6 m7 m8 m9 m21 m22 m23 m24 m25 m26 m30 m31 m32 m33 m34 m35 pl nd lk st bo ti te nr ml nn nl du nO nT wm wb ik kt kl hh pg dl er ra ck fa ft nw tu tc tr tf tt kc kr ke kd kf kg (by first | assumption | omega) (by first | assumption | omega)) (cwV 0 hts gX4_skewNow_X4_global rfl rfl rfl (by decide +kernel) ⟨Nat.le_of_ble_eq_true rfl, Nat.le_of_ble_eq_true rfl⟩) hK hP rfl rfl rfl hl.1 rfl (Nat.le_of_ble_eq_true rfl) dX4_skewNow_17 ⟨Nat.zero_le _, Nat.zero_le _⟩ rfl ?_
      refine lv_goto (tgt := 39) hx hb dX4_skewNow_20 (by decide) ?_
      refine kx_top (b := (mSn ck dl nd st ml z)) (by unfold mSn; (repeat' split) <;> first | rfl | omega) ?_
      exact hret _ _ dX4_skewNow_39
  · skip
    refine lv_aload_n hx hb dX4_skewNow_4 rfl (lv_at hl 0 rfl) ?_
    refine kx_cV (As := []) (rest := []) (st1 := [.int (iI (mLo ck dl nd))]) (q0 := 0) (ci := 4) ⟨hx, hb, hml, hown, hts⟩ (c_X4_local l D cI cZ h m1 m4 m5 m6 m7 m8 m9 m21 m22 m23 m24 m25 m26 m30 m31 m32 m33 m34 m35 pl nd lk st bo ti te nr ml nn nl du nO nT wm wb ik kt kl hh pg dl er ra ck fa ft nw tu tc tr tf tt kc kr ke kd kf kg (by first | assumption | omega) (by first | assumption | omega) (by first | assumption | omega)) (cwV 0 hts gX4_skewNow_X4_local rfl rfl rfl (by decide +kernel) ⟨Nat.le_of_ble_eq_true rfl, Nat.le_of_ble_eq_true rfl⟩) hK hP rfl rfl rfl hl.1 rfl (Nat.le_of_ble_eq_true rfl) dX4_skewNow_5 ⟨Nat.zero_le _, Nat.zero_le _⟩ rfl ?_
    refine lv_goto (tgt := 39) hx hb dX4_skewNow_8 (by decide) ?_
    refine kx_top (b := (mSn ck dl nd st ml z)) (by unfold mSn; (repeat' split) <;> first | rfl | omega) ?_
    exact hret _ _ dX4_skewNow_39
def rm_X4_skew : Room := ({ frames := 6, cells := 0, slots := 0, locals := 129 } : Room)
set_option maxHeartbeats 4000000 in
set_option maxRecDepth 100000 in
theorem c_X4_skew (l : Launch) (D : va_G) (cI cZ : ClassId) (h m1 m4 m5 m6 m7 m8 m9 m21 m22 m23 m24 m25 m26 m30 m31 m32 m33 m34 m35 : Nat) (pl nd lk st bo ti te nr ml nn nl du nO nT wm wb ik kt kl : Int) (hh : Int64) (pg dl er ra ck fa ft nw tu tc tr tf tt kc kr ke kd kf kg : Nat → Int) (z : Int) (hnd : 0 ≤ nd ∧ nd ≤ 6) (hdl : ∀ k : Nat, k < 36 → dl k = -100000001 ∨ (0 ≤ dl k ∧ dl k ≤ 3)) (hck : ∀ k : Nat, k < 24 → 0 ≤ ck k ∧ ck k ≤ 50000000) (hst : 1 ≤ st ∧ st ≤ 500) (hz : -2147483648 ≤ z ∧ z < 2147483648) : kRO l yX4_skew wsX4_skew rm_X4_skew D cI cZ [.ref h, .int (iI z)] (mdW cI cZ h m1 m4 m5 m6 m7 m8 m9 m21 m22 m23 m24 m25 m26 m30 m31 m32 m33 m34 m35 pl nd lk st bo ti te nr ml nn nl du nO nT wm wb ik kt kl hh pg dl er ra ck fa ft nw tu tc tr tf tt kc kr ke kd kf kg) (some (.int (iI (if ¬ (0 ≤ z ∧ z ≤ 3) then -100000003 else if nd = 0 then -100000004 else mSn ck dl nd st ml z)))) := by
  refine kx_ROi (cc := cX4_skew) (maxL := 2) (by decide) rfl (Nat.le_of_ble_eq_true rfl) ?_
  intro pr en s mi args below meth co Q hx hb hml hown hts hK hP hret ls hl
  have hown : s.vm.findClass RX4 = some mi.cls := hown
  have iX4 : ∀ w ∈ wsX40, w ∈ wsX4_skew := by decide +kernel
  have hl : lv_has ls 2 [(0, .ref h), (1, .int (iI z))] := hl
  refine lv_iload_n hx hb dX4_skew_0 rfl (lv_at hl 1 rfl) ?_
  refine kx_const (z := 0) hx hb dX4_skew_1 rfl ?_
  refine kx_const (z := 3) hx hb dX4_skew_2 rfl ?_
  refine kx_cS (As := [.int (iI z), .int (iI 0), .int (iI 3)]) (rest := []) (st1 := [.int (iI (if (0 ≤ z ∧ z ≤ 3) then 1 else 0))]) ⟨hx, hb, hml, hown, hts⟩ (c_X4_within l D cI cZ z 0 3 (by first | assumption | omega) (by first | assumption | omega) (by first | assumption | omega)) (va_cwS 3 hts gX4_skew_X4_within rfl rfl rfl (by decide +kernel) ⟨Nat.le_of_ble_eq_true rfl, Nat.le_of_ble_eq_true rfl⟩) hK (hP.sub (ws' := []) [] rfl) rfl hl.1 rfl (Nat.le_of_ble_eq_true rfl) dX4_skew_3 ⟨Nat.zero_le _, Nat.zero_le _⟩ rfl ?_
  refine kx_if_neB (tgt := 12) hx hb dX4_skew_6 (by decide) (fun h6 => ?_) (fun h6 => ?_)
  · skip
    refine lv_aload_n hx hb dX4_skew_12 rfl (lv_at hl 0 rfl) ?_
    refine va_get (D := D) (ci := 4) (v := .int (iI nd)) (C := RX4) (T := TX4) (N := 39) hx hb hts iX4 hown hK.1 hP 0 rfl rfl 2 (by decide) (hts (.fieldLink RX4 112 "CloseClocksModel" "nodes" "I") (by decide +kernel)) (fun _ h9 => h9) rfl dX4_skew_13 ?_
    refine kx_if_ne (tgt := 24) hx hb (by omega) dX4_skew_16 (by decide) (fun h16 => ?_) (fun h16 => ?_)
    · skip
      refine lv_aload_n hx hb dX4_skew_24 rfl (lv_at hl 0 rfl) ?_
      refine lv_iload_n hx hb dX4_skew_25 rfl (lv_at hl 1 rfl) ?_
      refine kx_cV (As := [.int (iI z)]) (rest := []) (st1 := [.int (iI (mSn ck dl nd st ml z))]) (q0 := 0) (ci := 4) ⟨hx, hb, hml, hown, hts⟩ (c_X4_skewNow l D cI cZ h m1 m4 m5 m6 m7 m8 m9 m21 m22 m23 m24 m25 m26 m30 m31 m32 m33 m34 m35 pl nd lk st bo ti te nr ml nn nl du nO nT wm wb ik kt kl hh pg dl er ra ck fa ft nw tu tc tr tf tt kc kr ke kd kf kg z (by first | assumption | omega) (by first | assumption | omega) (by first | assumption | omega) (by first | assumption | omega) (by first | assumption | omega)) (cwV 1 hts gX4_skew_X4_skewNow rfl rfl rfl (by decide +kernel) ⟨Nat.le_of_ble_eq_true rfl, Nat.le_of_ble_eq_true rfl⟩) hK hP rfl rfl rfl hl.1 rfl (Nat.le_of_ble_eq_true rfl) dX4_skew_26 ⟨Nat.zero_le _, Nat.zero_le _⟩ rfl ?_
      refine kx_top (b := (if ¬ (0 ≤ z ∧ z ≤ 3) then -100000003 else if nd = 0 then -100000004 else mSn ck dl nd st ml z)) (by (repeat' split) <;> first | rfl | omega | contradiction) ?_
      exact hret _ _ dX4_skew_29
    · skip
      refine kx_ldc (z := -100000004) hx hb hown (hts (.constant RX4 111 (-100000004)) (by decide +kernel)) dX4_skew_19 (by decide) ?_
      refine lv_goto (tgt := 29) hx hb dX4_skew_21 (by decide) ?_
      refine kx_top (b := (if ¬ (0 ≤ z ∧ z ≤ 3) then -100000003 else if nd = 0 then -100000004 else mSn ck dl nd st ml z)) (by (repeat' split) <;> first | rfl | omega | contradiction) ?_
      exact hret _ _ dX4_skew_29
  · skip
    refine kx_ldc (z := -100000003) hx hb hown (hts (.constant RX4 79 (-100000003)) (by decide +kernel)) dX4_skew_9 (by decide) ?_
    refine kx_top (b := (if ¬ (0 ≤ z ∧ z ≤ 3) then -100000003 else if nd = 0 then -100000004 else mSn ck dl nd st ml z)) (by (repeat' split) <;> first | rfl | omega | contradiction) ?_
    exact hret _ _ dX4_skew_11
def rm_X4_besideOf : Room := ({ frames := 3, cells := 0, slots := 0, locals := 65 } : Room)
set_option maxHeartbeats 4000000 in
set_option maxRecDepth 100000 in
theorem c_X4_besideOf (l : Launch) (D : va_G) (cI cZ : ClassId) (h m1 m4 m5 m6 m7 m8 m9 m21 m22 m23 m24 m25 m26 m30 m31 m32 m33 m34 m35 : Nat) (pl nd lk st bo ti te nr ml nn nl du nO nT wm wb ik kt kl : Int) (hh : Int64) (pg dl er ra ck fa ft nw tu tc tr tf tt kc kr ke kd kf kg : Nat → Int) (v : Nat) (hv : v < 6) (hnd : 0 ≤ nd ∧ nd ≤ 6) (hdl : ∀ k : Nat, k < 36 → dl k = -100000001 ∨ (0 ≤ dl k ∧ dl k ≤ 3)) : kRO l yX4_besideOf wsX4_besideOf rm_X4_besideOf D cI cZ [.ref h, .int (iI (v : Int))] (mdW cI cZ h m1 m4 m5 m6 m7 m8 m9 m21 m22 m23 m24 m25 m26 m30 m31 m32 m33 m34 m35 pl nd lk st bo ti te nr ml nn nl du nO nT wm wb ik kt kl hh pg dl er ra ck fa ft nw tu tc tr tf tt kc kr ke kd kf kg) (some (.int (iI (cnt (mBn dl nd v) nd.toNat)))) := by
  refine kx_ROi (cc := cX4_besideOf) (maxL := 4) (by decide) rfl (Nat.le_of_ble_eq_true rfl) ?_
  intro pr en s mi args below meth co Q hx hb hml hown hts hK hP hret ls hl
  have hown : s.vm.findClass RX4 = some mi.cls := hown
  have iX4 : ∀ w ∈ wsX40, w ∈ wsX4_besideOf := by decide +kernel
  have hl : lv_has ls 4 [(0, .ref h), (1, .int (iI (v : Int)))] := hl
  refine kx_const (z := 0) hx hb dX4_besideOf_0 rfl ?_
  refine lv_istore_n (lv' := [(2, .int (iI 0)), (0, .ref h), (1, .int (iI (v : Int)))]) hx hb dX4_besideOf_1 rfl hl (by decide) rfl (fun ls hl => ?_)
  refine kx_const (z := 0) hx hb dX4_besideOf_2 rfl ?_
  refine lv_istore_n (lv' := [(3, .int (iI 0)), (2, .int (iI 0)), (0, .ref h), (1, .int (iI (v : Int)))]) hx hb dX4_besideOf_3 rfl hl (by decide) rfl (fun ls hl => ?_)
  have L4 : ∀ (fu : Nat) (w : Nat) (mo : Int), ((w : Int) ≤ nd) → (mo = cnt (mBn dl nd v) w) → nd.toNat - w < fu → ∀ ls : Array Slot, lv_has ls 4 [(0, .ref h), (1, .int (iI (v : Int))), (2, .int (iI mo)), (3, .int (iI (w : Int)))] → W pr l en rm_X4_besideOf s mi args below meth co s.heap [] 0 0 Q (F0 mi 4 ls []) := by
    intro fu
    induction fu with
    | zero =>
      intro w mo hw hmo hfu
      exact absurd hfu (Nat.not_lt_zero _)
    | succ fu ih4 =>
      intro w mo hw hmo hfu ls hl
      refine lv_iload_n hx hb dX4_besideOf_4 rfl (lv_at hl 3 rfl) ?_
      refine lv_aload_n hx hb dX4_besideOf_5 rfl (lv_at hl 0 rfl) ?_
      refine va_get (D := D) (ci := 4) (v := .int (iI nd)) (C := RX4) (T := TX4) (N := 39) hx hb hts iX4 hown hK.1 hP 0 rfl rfl 2 (by decide) (hts (.fieldLink RX4 112 "CloseClocksModel" "nodes" "I") (by decide +kernel)) (fun _ h9 => h9) rfl dX4_besideOf_6 ?_
      refine kx_icmp_ge (tgt := 35) hx hb (by omega) (by omega) dX4_besideOf_9 (by decide) (fun h9 => ?_) (fun h9 => ?_)
      · skip
        refine lv_iload_n hx hb dX4_besideOf_35 rfl (lv_at hl 2 rfl) ?_
        refine kx_top (b := (cnt (mBn dl nd v) nd.toNat)) (by have hwe : w = nd.toNat := (by omega); rw [hmo, hwe]) ?_
        exact hret _ _ dX4_besideOf_36
      · skip
        refine lv_iload_n hx hb dX4_besideOf_12 rfl (lv_at hl 2 rfl) ?_
        refine lv_aload_n hx hb dX4_besideOf_13 rfl (lv_at hl 0 rfl) ?_
        refine lv_iload_n hx hb dX4_besideOf_14 rfl (lv_at hl 1 rfl) ?_
        refine lv_iload_n hx hb dX4_besideOf_15 rfl (lv_at hl 3 rfl) ?_
        refine kx_cV (As := [.int (iI (v : Int)), .int (iI (w : Int))]) (rest := [.int (iI mo)]) (st1 := [.int (iI (if (mB dl nd (v : Int) (w : Int) = true) then 1 else 0)), .int (iI mo)]) (q0 := 0) (ci := 4) ⟨hx, hb, hml, hown, hts⟩ (c_X4_areBeside l D cI cZ h m1 m4 m5 m6 m7 m8 m9 m21 m22 m23 m24 m25 m26 m30 m31 m32 m33 m34 m35 pl nd lk st bo ti te nr ml nn nl du nO nT wm wb ik kt kl hh pg dl er ra ck fa ft nw tu tc tr tf tt kc kr ke kd kf kg (v : Int) (w : Int) (by first | assumption | omega) (by first | assumption | omega) (by first | assumption | omega) (by first | assumption | omega)) (cwV 2 hts gX4_besideOf_X4_areBeside rfl rfl rfl (by decide +kernel) ⟨Nat.le_of_ble_eq_true rfl, Nat.le_of_ble_eq_true rfl⟩) hK hP rfl rfl rfl hl.1 rfl (Nat.le_of_ble_eq_true rfl) dX4_besideOf_16 ⟨Nat.zero_le _, Nat.zero_le _⟩ rfl ?_
        refine kx_if_eqB (tgt := 26) hx hb dX4_besideOf_19 (by decide) (fun h19 => ?_) (fun h19 => ?_)
        · skip
          refine kx_const (z := 0) hx hb dX4_besideOf_26 rfl ?_
          refine kx_iadd hx hb dX4_besideOf_27 ?_
          refine lv_istore_n (lv' := [(2, .int (iI (mo + 0))), (0, .ref h), (1, .int (iI (v : Int))), (3, .int (iI (w : Int)))]) hx hb dX4_besideOf_28 rfl hl (by decide) rfl (fun ls hl => ?_)
          refine kx_iinc (z := ((w + 1 : Nat) : Int)) (lv' := [(3, .int (iI ((w + 1 : Nat) : Int))), (2, .int (iI (mo + 0))), (0, .ref h), (1, .int (iI (v : Int)))]) hx hb dX4_besideOf_29 hl (k0 := 3) rfl (by omega) (by decide) rfl (fun ls hl => ?_)
          refine lv_goto (tgt := 4) hx hb dX4_besideOf_32 (by decide) ?_
          exact ih4 (w + 1) (mo + 0) (by first | assumption | omega) (by rw [cnt]; first | (rw [if_pos (show mBn dl nd v w = true from h19), hmo]) | (rw [if_neg (show ¬ mBn dl nd v w = true from h19), hmo])) (by omega) ls (lv_sub hl [2, 3, 1, 0] rfl)
        · skip
          refine kx_const (z := 1) hx hb dX4_besideOf_22 rfl ?_
          refine lv_goto (tgt := 27) hx hb dX4_besideOf_23 (by decide) ?_
          refine kx_iadd hx hb dX4_besideOf_27 ?_
          refine lv_istore_n (lv' := [(2, .int (iI (mo + 1))), (0, .ref h), (1, .int (iI (v : Int))), (3, .int (iI (w : Int)))]) hx hb dX4_besideOf_28 rfl hl (by decide) rfl (fun ls hl => ?_)
          refine kx_iinc (z := ((w + 1 : Nat) : Int)) (lv' := [(3, .int (iI ((w + 1 : Nat) : Int))), (2, .int (iI (mo + 1))), (0, .ref h), (1, .int (iI (v : Int)))]) hx hb dX4_besideOf_29 hl (k0 := 3) rfl (by omega) (by decide) rfl (fun ls hl => ?_)
          refine lv_goto (tgt := 4) hx hb dX4_besideOf_32 (by decide) ?_
          exact ih4 (w + 1) (mo + 1) (by first | assumption | omega) (by rw [cnt]; first | (rw [if_pos (show mBn dl nd v w = true from h19), hmo]) | (rw [if_neg (show ¬ mBn dl nd v w = true from h19), hmo])) (by omega) ls (lv_sub hl [2, 3, 1, 0] rfl)
  exact L4 (nd.toNat - 0 + 1) 0 0 (by first | assumption | omega) (rfl) (Nat.lt_succ_self _) ls (lv_sub hl [2, 3, 1, 0] rfl)
def rm_X4_nodeNow : Room := ({ frames := 5, cells := 0, slots := 0, locals := 112 } : Room)
set_option maxHeartbeats 4000000 in
set_option maxRecDepth 100000 in
theorem c_X4_nodeNow (l : Launch) (D : va_G) (cI cZ : ClassId) (h m1 m4 m5 m6 m7 m8 m9 m21 m22 m23 m24 m25 m26 m30 m31 m32 m33 m34 m35 : Nat) (pl nd lk st bo ti te nr ml nn nl du nO nT wm wb ik kt kl : Int) (hh : Int64) (pg dl er ra ck fa ft nw tu tc tr tf tt kc kr ke kd kf kg : Nat → Int) (v : Nat) (q : Int) (hv : v < 6) (hnd : 0 ≤ nd ∧ nd ≤ 6) (hdl : ∀ k : Nat, k < 36 → dl k = -100000001 ∨ (0 ≤ dl k ∧ dl k ≤ 3)) (hck : ∀ k : Nat, k < 24 → 0 ≤ ck k ∧ ck k ≤ 50000000) (her : ∀ k : Nat, k < 36 → -9 ≤ er k ∧ er k ≤ 9) (hst : 1 ≤ st ∧ st ≤ 500) (hfa : ∀ k : Nat, k < 6 → fa k = 0 ∨ fa k = 1) (hq : -2147483648 ≤ q ∧ q < 2147483648) : kRO l yX4_nodeNow wsX4_nodeNow rm_X4_nodeNow D cI cZ [.ref h, .int (iI (v : Int)), .int (iI q)] (mdW cI cZ h m1 m4 m5 m6 m7 m8 m9 m21 m22 m23 m24 m25 m26 m30 m31 m32 m33 m34 m35 pl nd lk st bo ti te nr ml nn nl du nO nT wm wb ik kt kl hh pg dl er ra ck fa ft nw tu tc tr tf tt kc kr ke kd kf kg) (some (.int (iI (mNo ck dl er ra fa ft nd st v q)))) := by
  refine kx_ROi (cc := cX4_nodeNow) (maxL := 3) (by decide) rfl (Nat.le_of_ble_eq_true rfl) ?_
  intro pr en s mi args below meth co Q hx hb hml hown hts hK hP hret ls hl
  have hown : s.vm.findClass RX4 = some mi.cls := hown
  have iX4 : ∀ w ∈ wsX40, w ∈ wsX4_nodeNow := by decide +kernel
  have hl : lv_has ls 3 [(0, .ref h), (1, .int (iI (v : Int))), (2, .int (iI q))] := hl
  refine lv_iload_n hx hb dX4_nodeNow_0 rfl (lv_at hl 2 rfl) ?_
  rcases (show (q < 0 ∨ 7 < q) ∨ q = 0 ∨ q = 1 ∨ q = 2 ∨ q = 3 ∨ q = 4 ∨ q = 5 ∨ q = 6 ∨ q = 7 by omega) with hsw | hsw | hsw | hsw | hsw | hsw | hsw | hsw | hsw
  · skip
    refine lv_tableOut (tgt := 111) hx hb dX4_nodeNow_1 (by rw [iI_toInt (by omega)]; omega) (by decide) ?_
    refine lv_aload_n hx hb dX4_nodeNow_111 rfl (lv_at hl 0 rfl) ?_
    refine va_get (D := D) (ci := 4) (v := .ref m9) (C := RX4) (T := TX4) (N := 39) hx hb hts iX4 hown hK.1 hP 0 rfl rfl 9 (by decide) (hts (.fieldLink RX4 29 "CloseClocksModel" "fastTicks" "[I") (by decide +kernel)) (fun _ h9 => h9) rfl dX4_nodeNow_112 ?_
    refine lv_iload_n hx hb dX4_nodeNow_115 rfl (lv_at hl 1 rfl) ?_
    refine kx_iald (k := v) hx hb hK hP 7 rfl (by omega) (by omega) (by decide) dX4_nodeNow_116 ?_
    refine kx_top (b := (mNo ck dl er ra fa ft nd st v q)) (by unfold mNo; (repeat' split) <;> first | rfl | omega) ?_
    exact hret _ _ dX4_nodeNow_117
  · skip
    refine lv_tableIn (tgt := 48) hx hb dX4_nodeNow_1 (by rw [iI_toInt (by omega)]; omega) (by rw [iI_toInt (by omega)]; omega) (by rw [iI_toInt (by omega), hsw]; rfl) (by decide) ?_
    refine lv_aload_n hx hb dX4_nodeNow_48 rfl (lv_at hl 0 rfl) ?_
    refine va_get (D := D) (ci := 4) (v := .ref m7) (C := RX4) (T := TX4) (N := 39) hx hb hts iX4 hown hK.1 hP 0 rfl rfl 7 (by decide) (hts (.fieldLink RX4 22 "CloseClocksModel" "clockAt" "[I") (by decide +kernel)) (fun _ h9 => h9) rfl dX4_nodeNow_49 ?_
    refine kx_const (z := 4) hx hb dX4_nodeNow_52 rfl ?_
    refine lv_iload_n hx hb dX4_nodeNow_53 rfl (lv_at hl 1 rfl) ?_
    refine kx_imul hx hb dX4_nodeNow_54 ?_
    refine kx_iald (k := (4 * v)) hx hb hK hP 5 rfl (by omega) (by omega) (by decide) dX4_nodeNow_55 ?_
    refine kx_top (b := (mNo ck dl er ra fa ft nd st v q)) (by unfold mNo; (repeat' split) <;> first | rfl | omega) ?_
    exact hret _ _ dX4_nodeNow_56
  · skip
    refine lv_tableIn (tgt := 57) hx hb dX4_nodeNow_1 (by rw [iI_toInt (by omega)]; omega) (by rw [iI_toInt (by omega)]; omega) (by rw [iI_toInt (by omega), hsw]; rfl) (by decide) ?_
    refine lv_aload_n hx hb dX4_nodeNow_57 rfl (lv_at hl 0 rfl) ?_
    refine va_get (D := D) (ci := 4) (v := .ref m6) (C := RX4) (T := TX4) (N := 39) hx hb hts iX4 hown hK.1 hP 0 rfl rfl 6 (by decide) (hts (.fieldLink RX4 19 "CloseClocksModel" "rateOf" "[I") (by decide +kernel)) (fun _ h9 => h9) rfl dX4_nodeNow_58 ?_
    refine lv_iload_n hx hb dX4_nodeNow_61 rfl (lv_at hl 1 rfl) ?_
    refine kx_iald (k := v) hx hb hK hP 4 rfl (by omega) (by omega) (by decide) dX4_nodeNow_62 ?_
    refine kx_top (b := (mNo ck dl er ra fa ft nd st v q)) (by unfold mNo; (repeat' split) <;> first | rfl | omega) ?_
    exact hret _ _ dX4_nodeNow_63
  · skip
    refine lv_tableIn (tgt := 64) hx hb dX4_nodeNow_1 (by rw [iI_toInt (by omega)]; omega) (by rw [iI_toInt (by omega)]; omega) (by rw [iI_toInt (by omega), hsw]; rfl) (by decide) ?_
    refine lv_aload_n hx hb dX4_nodeNow_64 rfl (lv_at hl 0 rfl) ?_
    refine va_get (D := D) (ci := 4) (v := .ref m8) (C := RX4) (T := TX4) (N := 39) hx hb hts iX4 hown hK.1 hP 0 rfl rfl 8 (by decide) (hts (.fieldLink RX4 25 "CloseClocksModel" "isFast" "[Z") (by decide +kernel)) (fun _ h9 => h9) rfl dX4_nodeNow_65 ?_
    refine lv_iload_n hx hb dX4_nodeNow_68 rfl (lv_at hl 1 rfl) ?_
    refine kx_zald (k := v) hx hb hK hP 6 rfl (by omega) (by omega) (by decide) dX4_nodeNow_69 ?_
    have rg_1 := hfa v (by omega)
    refine kx_if_eq (tgt := 77) hx hb (by omega) dX4_nodeNow_70 (by decide) (fun h70 => ?_) (fun h70 => ?_)
    · skip
      refine kx_const (z := 0) hx hb dX4_nodeNow_77 rfl ?_
      refine kx_top (b := (mNo ck dl er ra fa ft nd st v q)) (by unfold mNo; (repeat' split) <;> first | rfl | omega) ?_
      exact hret _ _ dX4_nodeNow_78
    · skip
      refine kx_const (z := 1) hx hb dX4_nodeNow_73 rfl ?_
      refine lv_goto (tgt := 78) hx hb dX4_nodeNow_74 (by decide) ?_
      refine kx_top (b := (mNo ck dl er ra fa ft nd st v q)) (by unfold mNo; (repeat' split) <;> first | rfl | omega) ?_
      exact hret _ _ dX4_nodeNow_78
  · skip
    refine lv_tableIn (tgt := 79) hx hb dX4_nodeNow_1 (by rw [iI_toInt (by omega)]; omega) (by rw [iI_toInt (by omega)]; omega) (by rw [iI_toInt (by omega), hsw]; rfl) (by decide) ?_
    refine lv_aload_n hx hb dX4_nodeNow_79 rfl (lv_at hl 0 rfl) ?_
    refine lv_iload_n hx hb dX4_nodeNow_80 rfl (lv_at hl 1 rfl) ?_
    refine kx_cV (As := [.int (iI (v : Int))]) (rest := []) (st1 := [.int (iI (cnt (mBn dl nd v) nd.toNat))]) (q0 := 0) (ci := 4) ⟨hx, hb, hml, hown, hts⟩ (c_X4_besideOf l D cI cZ h m1 m4 m5 m6 m7 m8 m9 m21 m22 m23 m24 m25 m26 m30 m31 m32 m33 m34 m35 pl nd lk st bo ti te nr ml nn nl du nO nT wm wb ik kt kl hh pg dl er ra ck fa ft nw tu tc tr tf tt kc kr ke kd kf kg v (by first | assumption | omega) (by first | assumption | omega) (by first | assumption | omega)) (cwV 1 hts gX4_nodeNow_X4_besideOf rfl rfl rfl (by decide +kernel) ⟨Nat.le_of_ble_eq_true rfl, Nat.le_of_ble_eq_true rfl⟩) hK hP rfl rfl rfl hl.1 rfl (Nat.le_of_ble_eq_true rfl) dX4_nodeNow_81 ⟨Nat.zero_le _, Nat.zero_le _⟩ rfl ?_
    refine kx_top (b := (mNo ck dl er ra fa ft nd st v q)) (by unfold mNo; (repeat' split) <;> first | rfl | omega) ?_
    exact hret _ _ dX4_nodeNow_84
  · skip
    refine lv_tableIn (tgt := 85) hx hb dX4_nodeNow_1 (by rw [iI_toInt (by omega)]; omega) (by rw [iI_toInt (by omega)]; omega) (by rw [iI_toInt (by omega), hsw]; rfl) (by decide) ?_
    refine lv_aload_n hx hb dX4_nodeNow_85 rfl (lv_at hl 0 rfl) ?_
    refine lv_iload_n hx hb dX4_nodeNow_86 rfl (lv_at hl 1 rfl) ?_
    refine kx_const (z := 1) hx hb dX4_nodeNow_87 rfl ?_
    refine kx_cV (As := [.int (iI (v : Int)), .int (iI 1)]) (rest := []) (st1 := [.int (iI (mOf ck dl er nd 1 v nd.toNat))]) (q0 := 0) (ci := 4) ⟨hx, hb, hml, hown, hts⟩ (c_X4_off l D cI cZ h m1 m4 m5 m6 m7 m8 m9 m21 m22 m23 m24 m25 m26 m30 m31 m32 m33 m34 m35 pl nd lk st bo ti te nr ml nn nl du nO nT wm wb ik kt kl hh pg dl er ra ck fa ft nw tu tc tr tf tt kc kr ke kd kf kg v 1 (by first | assumption | omega) (by first | assumption | omega) (by first | assumption | omega) (by first | assumption | omega) (by first | assumption | omega) (by first | assumption | omega)) (cwV 2 hts gX4_nodeNow_X4_off rfl rfl rfl (by decide +kernel) ⟨Nat.le_of_ble_eq_true rfl, Nat.le_of_ble_eq_true rfl⟩) hK hP rfl rfl rfl hl.1 rfl (Nat.le_of_ble_eq_true rfl) dX4_nodeNow_88 ⟨Nat.zero_le _, Nat.zero_le _⟩ rfl ?_
    refine kx_top (b := (mNo ck dl er ra fa ft nd st v q)) (by unfold mNo; (repeat' split) <;> first | rfl | omega) ?_
    exact hret _ _ dX4_nodeNow_91
  · skip
    refine lv_tableIn (tgt := 92) hx hb dX4_nodeNow_1 (by rw [iI_toInt (by omega)]; omega) (by rw [iI_toInt (by omega)]; omega) (by rw [iI_toInt (by omega), hsw]; rfl) (by decide) ?_
    refine lv_aload_n hx hb dX4_nodeNow_92 rfl (lv_at hl 0 rfl) ?_
    refine lv_iload_n hx hb dX4_nodeNow_93 rfl (lv_at hl 1 rfl) ?_
    refine kx_const (z := 0) hx hb dX4_nodeNow_94 rfl ?_
    refine kx_cV (As := [.int (iI (v : Int)), .int (iI 0)]) (rest := []) (st1 := [.int (iI (mOf ck dl er nd 0 v nd.toNat))]) (q0 := 0) (ci := 4) ⟨hx, hb, hml, hown, hts⟩ (c_X4_off l D cI cZ h m1 m4 m5 m6 m7 m8 m9 m21 m22 m23 m24 m25 m26 m30 m31 m32 m33 m34 m35 pl nd lk st bo ti te nr ml nn nl du nO nT wm wb ik kt kl hh pg dl er ra ck fa ft nw tu tc tr tf tt kc kr ke kd kf kg v 0 (by first | assumption | omega) (by first | assumption | omega) (by first | assumption | omega) (by first | assumption | omega) (by first | assumption | omega) (by first | assumption | omega)) (cwV 2 hts gX4_nodeNow_X4_off rfl rfl rfl (by decide +kernel) ⟨Nat.le_of_ble_eq_true rfl, Nat.le_of_ble_eq_true rfl⟩) hK hP rfl rfl rfl hl.1 rfl (Nat.le_of_ble_eq_true rfl) dX4_nodeNow_95 ⟨Nat.zero_le _, Nat.zero_le _⟩ rfl ?_
    refine kx_top (b := (mNo ck dl er ra fa ft nd st v q)) (by unfold mNo; (repeat' split) <;> first | rfl | omega) ?_
    exact hret _ _ dX4_nodeNow_98
  · skip
    refine lv_tableIn (tgt := 99) hx hb dX4_nodeNow_1 (by rw [iI_toInt (by omega)]; omega) (by rw [iI_toInt (by omega)]; omega) (by rw [iI_toInt (by omega), hsw]; rfl) (by decide) ?_
    refine lv_aload_n hx hb dX4_nodeNow_99 rfl (lv_at hl 0 rfl) ?_
    refine lv_iload_n hx hb dX4_nodeNow_100 rfl (lv_at hl 1 rfl) ?_
    refine kx_cV (As := [.int (iI (v : Int))]) (rest := []) (st1 := [.int (iI (mUp st (mOf ck dl er nd 1 v nd.toNat) (mOf ck dl er nd 0 v nd.toNat)))]) (q0 := 0) (ci := 4) ⟨hx, hb, hml, hown, hts⟩ (c_X4_upOf l D cI cZ h m1 m4 m5 m6 m7 m8 m9 m21 m22 m23 m24 m25 m26 m30 m31 m32 m33 m34 m35 pl nd lk st bo ti te nr ml nn nl du nO nT wm wb ik kt kl hh pg dl er ra ck fa ft nw tu tc tr tf tt kc kr ke kd kf kg v (by first | assumption | omega) (by first | assumption | omega) (by first | assumption | omega) (by first | assumption | omega) (by first | assumption | omega) (by first | assumption | omega)) (cwV 1 hts gX4_nodeNow_X4_upOf rfl rfl rfl (by decide +kernel) ⟨Nat.le_of_ble_eq_true rfl, Nat.le_of_ble_eq_true rfl⟩) hK hP rfl rfl rfl hl.1 rfl (Nat.le_of_ble_eq_true rfl) dX4_nodeNow_101 ⟨Nat.zero_le _, Nat.zero_le _⟩ rfl ?_
    refine kx_top (b := (mNo ck dl er ra fa ft nd st v q)) (by unfold mNo; (repeat' split) <;> first | rfl | omega) ?_
    exact hret _ _ dX4_nodeNow_104
  · skip
    refine lv_tableIn (tgt := 105) hx hb dX4_nodeNow_1 (by rw [iI_toInt (by omega)]; omega) (by rw [iI_toInt (by omega)]; omega) (by rw [iI_toInt (by omega), hsw]; rfl) (by decide) ?_
    refine lv_aload_n hx hb dX4_nodeNow_105 rfl (lv_at hl 0 rfl) ?_
    refine lv_iload_n hx hb dX4_nodeNow_106 rfl (lv_at hl 1 rfl) ?_
    refine kx_cV (As := [.int (iI (v : Int))]) (rest := []) (st1 := [.int (iI (mDn st (mOf ck dl er nd 1 v nd.toNat) (mOf ck dl er nd 0 v nd.toNat)))]) (q0 := 0) (ci := 4) ⟨hx, hb, hml, hown, hts⟩ (c_X4_downOf l D cI cZ h m1 m4 m5 m6 m7 m8 m9 m21 m22 m23 m24 m25 m26 m30 m31 m32 m33 m34 m35 pl nd lk st bo ti te nr ml nn nl du nO nT wm wb ik kt kl hh pg dl er ra ck fa ft nw tu tc tr tf tt kc kr ke kd kf kg v (by first | assumption | omega) (by first | assumption | omega) (by first | assumption | omega) (by first | assumption | omega) (by first | assumption | omega) (by first | assumption | omega)) (cwV 1 hts gX4_nodeNow_X4_downOf rfl rfl rfl (by decide +kernel) ⟨Nat.le_of_ble_eq_true rfl, Nat.le_of_ble_eq_true rfl⟩) hK hP rfl rfl rfl hl.1 rfl (Nat.le_of_ble_eq_true rfl) dX4_nodeNow_107 ⟨Nat.zero_le _, Nat.zero_le _⟩ rfl ?_
    refine kx_top (b := (mNo ck dl er ra fa ft nd st v q)) (by unfold mNo; (repeat' split) <;> first | rfl | omega) ?_
    exact hret _ _ dX4_nodeNow_110
def rm_X4_node : Room := ({ frames := 6, cells := 0, slots := 0, locals := 134 } : Room)
set_option maxHeartbeats 4000000 in
set_option maxRecDepth 100000 in
theorem c_X4_node (l : Launch) (D : va_G) (cI cZ : ClassId) (h m1 m4 m5 m6 m7 m8 m9 m21 m22 m23 m24 m25 m26 m30 m31 m32 m33 m34 m35 : Nat) (pl nd lk st bo ti te nr ml nn nl du nO nT wm wb ik kt kl : Int) (hh : Int64) (pg dl er ra ck fa ft nw tu tc tr tf tt kc kr ke kd kf kg : Nat → Int) (z q : Int) (hnd : 0 ≤ nd ∧ nd ≤ 6) (hdl : ∀ k : Nat, k < 36 → dl k = -100000001 ∨ (0 ≤ dl k ∧ dl k ≤ 3)) (hck : ∀ k : Nat, k < 24 → 0 ≤ ck k ∧ ck k ≤ 50000000) (her : ∀ k : Nat, k < 36 → -9 ≤ er k ∧ er k ≤ 9) (hst : 1 ≤ st ∧ st ≤ 500) (hfa : ∀ k : Nat, k < 6 → fa k = 0 ∨ fa k = 1) (hz : -2147483648 ≤ z ∧ z < 2147483648) (hq : -2147483648 ≤ q ∧ q < 2147483648) : kRO l yX4_node wsX4_node rm_X4_node D cI cZ [.ref h, .int (iI z), .int (iI q)] (mdW cI cZ h m1 m4 m5 m6 m7 m8 m9 m21 m22 m23 m24 m25 m26 m30 m31 m32 m33 m34 m35 pl nd lk st bo ti te nr ml nn nl du nO nT wm wb ik kt kl hh pg dl er ra ck fa ft nw tu tc tr tf tt kc kr ke kd kf kg) (some (.int (iI (if ¬ (0 ≤ z ∧ z ≤ nd - 1) then -100000002 else if 0 ≤ q ∧ q ≤ 8 then mNo ck dl er ra fa ft nd st z.toNat q else -100000003)))) := by
  refine kx_ROi (cc := cX4_node) (maxL := 3) (by decide) rfl (Nat.le_of_ble_eq_true rfl) ?_
  intro pr en s mi args below meth co Q hx hb hml hown hts hK hP hret ls hl
  have hown : s.vm.findClass RX4 = some mi.cls := hown
  have hl : lv_has ls 3 [(0, .ref h), (1, .int (iI z)), (2, .int (iI q))] := hl
  refine lv_aload_n hx hb dX4_node_0 rfl (lv_at hl 0 rfl) ?_
  refine lv_iload_n hx hb dX4_node_1 rfl (lv_at hl 1 rfl) ?_
  refine kx_cV (As := [.int (iI z)]) (rest := []) (st1 := [.int (iI (if (0 ≤ z ∧ z ≤ (nd - 1)) then 1 else 0))]) (q0 := 0) (ci := 4) ⟨hx, hb, hml, hown, hts⟩ (c_X4_isNode l D cI cZ h m1 m4 m5 m6 m7 m8 m9 m21 m22 m23 m24 m25 m26 m30 m31 m32 m33 m34 m35 pl nd lk st bo ti te nr ml nn nl du nO nT wm wb ik kt kl hh pg dl er ra ck fa ft nw tu tc tr tf tt kc kr ke kd kf kg z (by first | assumption | omega) (by first | assumption | omega)) (cwV 1 hts gX4_node_X4_isNode rfl rfl rfl (by decide +kernel) ⟨Nat.le_of_ble_eq_true rfl, Nat.le_of_ble_eq_true rfl⟩) hK hP rfl rfl rfl hl.1 rfl (Nat.le_of_ble_eq_true rfl) dX4_node_2 ⟨Nat.zero_le _, Nat.zero_le _⟩ rfl ?_
  refine kx_if_neB (tgt := 11) hx hb dX4_node_5 (by decide) (fun h5 => ?_) (fun h5 => ?_)
  · skip
    refine lv_iload_n hx hb dX4_node_11 rfl (lv_at hl 2 rfl) ?_
    refine kx_const (z := 0) hx hb dX4_node_12 rfl ?_
    refine kx_bipush (z := 8) hx hb dX4_node_13 (by decide) ?_
    refine kx_cS (As := [.int (iI q), .int (iI 0), .int (iI 8)]) (rest := []) (st1 := [.int (iI (if (0 ≤ q ∧ q ≤ 8) then 1 else 0))]) ⟨hx, hb, hml, hown, hts⟩ (c_X4_within l D cI cZ q 0 8 (by first | assumption | omega) (by first | assumption | omega) (by first | assumption | omega)) (va_cwS 3 hts gX4_node_X4_within rfl rfl rfl (by decide +kernel) ⟨Nat.le_of_ble_eq_true rfl, Nat.le_of_ble_eq_true rfl⟩) hK (hP.sub (ws' := []) [] rfl) rfl hl.1 rfl (Nat.le_of_ble_eq_true rfl) dX4_node_15 ⟨Nat.zero_le _, Nat.zero_le _⟩ rfl ?_
    refine kx_if_eqB (tgt := 30) hx hb dX4_node_18 (by decide) (fun h18 => ?_) (fun h18 => ?_)
    · skip
      refine kx_ldc (z := -100000003) hx hb hown (hts (.constant RX4 79 (-100000003)) (by decide +kernel)) dX4_node_30 (by decide) ?_
      refine kx_top (b := (if ¬ (0 ≤ z ∧ z ≤ nd - 1) then -100000002 else if 0 ≤ q ∧ q ≤ 8 then mNo ck dl er ra fa ft nd st z.toNat q else -100000003)) (by (repeat' split) <;> first | rfl | omega | contradiction) ?_
      exact hret _ _ dX4_node_32
    · skip
      refine lv_aload_n hx hb dX4_node_21 rfl (lv_at hl 0 rfl) ?_
      refine lv_iload_n hx hb dX4_node_22 rfl (lv_at hl 1 rfl) ?_
      refine kx_top (b := ((z.toNat : Nat) : Int)) (by omega) ?_
      refine lv_iload_n hx hb dX4_node_23 rfl (lv_at hl 2 rfl) ?_
      refine kx_cV (As := [.int (iI ((z.toNat : Nat) : Int)), .int (iI q)]) (rest := []) (st1 := [.int (iI (mNo ck dl er ra fa ft nd st (z.toNat) q))]) (q0 := 0) (ci := 4) ⟨hx, hb, hml, hown, hts⟩ (c_X4_nodeNow l D cI cZ h m1 m4 m5 m6 m7 m8 m9 m21 m22 m23 m24 m25 m26 m30 m31 m32 m33 m34 m35 pl nd lk st bo ti te nr ml nn nl du nO nT wm wb ik kt kl hh pg dl er ra ck fa ft nw tu tc tr tf tt kc kr ke kd kf kg (z.toNat) q (by first | assumption | omega) (by first | assumption | omega) (by first | assumption | omega) (by first | assumption | omega) (by first | assumption | omega) (by first | assumption | omega) (by first | assumption | omega) (by first | assumption | omega)) (cwV 2 hts gX4_node_X4_nodeNow rfl rfl rfl (by decide +kernel) ⟨Nat.le_of_ble_eq_true rfl, Nat.le_of_ble_eq_true rfl⟩) hK hP rfl rfl rfl hl.1 rfl (Nat.le_of_ble_eq_true rfl) dX4_node_24 ⟨Nat.zero_le _, Nat.zero_le _⟩ rfl ?_
      refine lv_goto (tgt := 32) hx hb dX4_node_27 (by decide) ?_
      refine kx_top (b := (if ¬ (0 ≤ z ∧ z ≤ nd - 1) then -100000002 else if 0 ≤ q ∧ q ≤ 8 then mNo ck dl er ra fa ft nd st z.toNat q else -100000003)) (by (repeat' split) <;> first | rfl | omega | contradiction) ?_
      exact hret _ _ dX4_node_32
  · skip
    refine kx_ldc (z := -100000002) hx hb hown (hts (.constant RX4 138 (-100000002)) (by decide +kernel)) dX4_node_8 (by decide) ?_
    refine kx_top (b := (if ¬ (0 ≤ z ∧ z ≤ nd - 1) then -100000002 else if 0 ≤ q ∧ q ≤ 8 then mNo ck dl er ra fa ft nd st z.toNat q else -100000003)) (by (repeat' split) <;> first | rfl | omega | contradiction) ?_
    exact hret _ _ dX4_node_10
def rm_X4_linkNow : Room := ({ frames := 1, cells := 0, slots := 0, locals := 23 } : Room)
set_option maxHeartbeats 4000000 in
set_option maxRecDepth 100000 in
theorem c_X4_linkNow (l : Launch) (D : va_G) (cI cZ : ClassId) (h m1 m4 m5 m6 m7 m8 m9 m21 m22 m23 m24 m25 m26 m30 m31 m32 m33 m34 m35 : Nat) (pl nd lk st bo ti te nr ml nn nl du nO nT wm wb ik kt kl : Int) (hh : Int64) (pg dl er ra ck fa ft nw tu tc tr tf tt kc kr ke kd kf kg : Nat → Int) (i j : Nat) (q : Int) (hi : i < 6) (hj : j < 6) (hck : ∀ k : Nat, k < 24 → 0 ≤ ck k ∧ ck k ≤ 50000000) (hd : 0 ≤ dl (6 * i + j) ∧ dl (6 * i + j) ≤ 3) (hq : -2147483648 ≤ q ∧ q < 2147483648) : kRO l yX4_linkNow wsX4_linkNow rm_X4_linkNow D cI cZ [.ref h, .int (iI (i : Int)), .int (iI (j : Int)), .int (iI q)] (mdW cI cZ h m1 m4 m5 m6 m7 m8 m9 m21 m22 m23 m24 m25 m26 m30 m31 m32 m33 m34 m35 pl nd lk st bo ti te nr ml nn nl du nO nT wm wb ik kt kl hh pg dl er ra ck fa ft nw tu tc tr tf tt kc kr ke kd kf kg) (some (.int (iI (mLk ck dl er i j q)))) := by
  refine kx_ROi (cc := cX4_linkNow) (maxL := 4) (by decide) rfl (Nat.le_of_ble_eq_true rfl) ?_
  intro pr en s mi args below meth co Q hx hb hml hown hts hK hP hret ls hl
  have hown : s.vm.findClass RX4 = some mi.cls := hown
  have iX4 : ∀ w ∈ wsX40, w ∈ wsX4_linkNow := by decide +kernel
  have hl : lv_has ls 4 [(0, .ref h), (1, .int (iI (i : Int))), (2, .int (iI (j : Int))), (3, .int (iI q))] := hl
  refine lv_iload_n hx hb dX4_linkNow_0 rfl (lv_at hl 3 rfl) ?_
  refine kx_if_ne (tgt := 18) hx hb (by omega) dX4_linkNow_1 (by decide) (fun h1 => ?_) (fun h1 => ?_)
  · skip
    refine lv_iload_n hx hb dX4_linkNow_18 rfl (lv_at hl 3 rfl) ?_
    refine kx_const (z := 1) hx hb dX4_linkNow_19 rfl ?_
    refine kx_icmp_ne (tgt := 37) hx hb (by omega) (by omega) dX4_linkNow_20 (by decide) (fun h20 => ?_) (fun h20 => ?_)
    · skip
      refine lv_iload_n hx hb dX4_linkNow_37 rfl (lv_at hl 3 rfl) ?_
      refine kx_const (z := 2) hx hb dX4_linkNow_38 rfl ?_
      refine kx_icmp_ne (tgt := 51) hx hb (by omega) (by omega) dX4_linkNow_39 (by decide) (fun h39 => ?_) (fun h39 => ?_)
      · skip
        refine lv_aload_n hx hb dX4_linkNow_51 rfl (lv_at hl 0 rfl) ?_
        refine lv_iload_n hx hb dX4_linkNow_52 rfl (lv_at hl 1 rfl) ?_
        refine lv_iload_n hx hb dX4_linkNow_53 rfl (lv_at hl 2 rfl) ?_
        refine kx_cV (As := [.int (iI (i : Int)), .int (iI (j : Int))]) (rest := []) (st1 := [.int (iI (mSk ck i j))]) (q0 := 0) (ci := 4) ⟨hx, hb, hml, hown, hts⟩ (c_X4_skewOf l D cI cZ h m1 m4 m5 m6 m7 m8 m9 m21 m22 m23 m24 m25 m26 m30 m31 m32 m33 m34 m35 pl nd lk st bo ti te nr ml nn nl du nO nT wm wb ik kt kl hh pg dl er ra ck fa ft nw tu tc tr tf tt kc kr ke kd kf kg i j (by first | assumption | omega) (by first | assumption | omega) (by first | assumption | omega)) (cwV 2 hts gX4_linkNow_X4_skewOf rfl rfl rfl (by decide +kernel) ⟨Nat.le_of_ble_eq_true rfl, Nat.le_of_ble_eq_true rfl⟩) hK hP rfl rfl rfl hl.1 rfl (Nat.le_of_ble_eq_true rfl) dX4_linkNow_54 ⟨Nat.zero_le _, Nat.zero_le _⟩ rfl ?_
        refine kx_top (b := (mLk ck dl er i j q)) (by unfold mLk; (repeat' split) <;> first | rfl | omega) ?_
        exact hret _ _ dX4_linkNow_57
      · skip
        refine lv_aload_n hx hb dX4_linkNow_42 rfl (lv_at hl 0 rfl) ?_
        refine lv_iload_n hx hb dX4_linkNow_43 rfl (lv_at hl 1 rfl) ?_
        refine lv_iload_n hx hb dX4_linkNow_44 rfl (lv_at hl 2 rfl) ?_
        refine kx_cV (As := [.int (iI (i : Int)), .int (iI (j : Int))]) (rest := []) (st1 := [.int (iI (mG ck dl er i j))]) (q0 := 0) (ci := 4) ⟨hx, hb, hml, hown, hts⟩ (c_X4_guess l D cI cZ h m1 m4 m5 m6 m7 m8 m9 m21 m22 m23 m24 m25 m26 m30 m31 m32 m33 m34 m35 pl nd lk st bo ti te nr ml nn nl du nO nT wm wb ik kt kl hh pg dl er ra ck fa ft nw tu tc tr tf tt kc kr ke kd kf kg i j (by first | assumption | omega) (by first | assumption | omega) (by first | assumption | omega)) (cwV 2 hts gX4_linkNow_X4_guess rfl rfl rfl (by decide +kernel) ⟨Nat.le_of_ble_eq_true rfl, Nat.le_of_ble_eq_true rfl⟩) hK hP rfl rfl rfl hl.1 rfl (Nat.le_of_ble_eq_true rfl) dX4_linkNow_45 ⟨Nat.zero_le _, Nat.zero_le _⟩ rfl ?_
        refine lv_goto (tgt := 57) hx hb dX4_linkNow_48 (by decide) ?_
        refine kx_top (b := (mLk ck dl er i j q)) (by unfold mLk; (repeat' split) <;> first | rfl | omega) ?_
        exact hret _ _ dX4_linkNow_57
    · skip
      refine lv_aload_n hx hb dX4_linkNow_23 rfl (lv_at hl 0 rfl) ?_
      refine va_get (D := D) (ci := 4) (v := .ref m5) (C := RX4) (T := TX4) (N := 39) hx hb hts iX4 hown hK.1 hP 0 rfl rfl 5 (by decide) (hts (.fieldLink RX4 16 "CloseClocksModel" "errorOf" "[I") (by decide +kernel)) (fun _ h9 => h9) rfl dX4_linkNow_24 ?_
      refine kx_bipush (z := 6) hx hb dX4_linkNow_27 (by decide) ?_
      refine lv_iload_n hx hb dX4_linkNow_29 rfl (lv_at hl 1 rfl) ?_
      refine kx_imul hx hb dX4_linkNow_30 ?_
      refine lv_iload_n hx hb dX4_linkNow_31 rfl (lv_at hl 2 rfl) ?_
      refine kx_iadd hx hb dX4_linkNow_32 ?_
      refine kx_iald (k := ((6 * i) + j)) hx hb hK hP 3 rfl (by omega) (by omega) (by decide) dX4_linkNow_33 ?_
      refine lv_goto (tgt := 57) hx hb dX4_linkNow_34 (by decide) ?_
      refine kx_top (b := (mLk ck dl er i j q)) (by unfold mLk; (repeat' split) <;> first | rfl | omega) ?_
      exact hret _ _ dX4_linkNow_57
  · skip
    refine lv_aload_n hx hb dX4_linkNow_4 rfl (lv_at hl 0 rfl) ?_
    refine va_get (D := D) (ci := 4) (v := .ref m4) (C := RX4) (T := TX4) (N := 39) hx hb hts iX4 hown hK.1 hP 0 rfl rfl 4 (by decide) (hts (.fieldLink RX4 13 "CloseClocksModel" "delayOf" "[I") (by decide +kernel)) (fun _ h9 => h9) rfl dX4_linkNow_5 ?_
    refine kx_bipush (z := 6) hx hb dX4_linkNow_8 (by decide) ?_
    refine lv_iload_n hx hb dX4_linkNow_10 rfl (lv_at hl 1 rfl) ?_
    refine kx_imul hx hb dX4_linkNow_11 ?_
    refine lv_iload_n hx hb dX4_linkNow_12 rfl (lv_at hl 2 rfl) ?_
    refine kx_iadd hx hb dX4_linkNow_13 ?_
    refine kx_iald (k := ((6 * i) + j)) hx hb hK hP 2 rfl (by omega) (by omega) (by decide) dX4_linkNow_14 ?_
    refine lv_goto (tgt := 57) hx hb dX4_linkNow_15 (by decide) ?_
    refine kx_top (b := (mLk ck dl er i j q)) (by unfold mLk; (repeat' split) <;> first | rfl | omega) ?_
    exact hret _ _ dX4_linkNow_57
def rm_X4_link : Room := ({ frames := 3, cells := 0, slots := 0, locals := 65 } : Room)
set_option maxHeartbeats 4000000 in
set_option maxRecDepth 100000 in
theorem c_X4_link (l : Launch) (D : va_G) (cI cZ : ClassId) (h m1 m4 m5 m6 m7 m8 m9 m21 m22 m23 m24 m25 m26 m30 m31 m32 m33 m34 m35 : Nat) (pl nd lk st bo ti te nr ml nn nl du nO nT wm wb ik kt kl : Int) (hh : Int64) (pg dl er ra ck fa ft nw tu tc tr tf tt kc kr ke kd kf kg : Nat → Int) (z w q : Int) (hnd : 0 ≤ nd ∧ nd ≤ 6) (hdl : ∀ k : Nat, k < 36 → dl k = -100000001 ∨ (0 ≤ dl k ∧ dl k ≤ 3)) (hck : ∀ k : Nat, k < 24 → 0 ≤ ck k ∧ ck k ≤ 50000000) (hz : -2147483648 ≤ z ∧ z < 2147483648) (hw : -2147483648 ≤ w ∧ w < 2147483648) (hq : -2147483648 ≤ q ∧ q < 2147483648) : kRO l yX4_link wsX4_link rm_X4_link D cI cZ [.ref h, .int (iI z), .int (iI w), .int (iI q)] (mdW cI cZ h m1 m4 m5 m6 m7 m8 m9 m21 m22 m23 m24 m25 m26 m30 m31 m32 m33 m34 m35 pl nd lk st bo ti te nr ml nn nl du nO nT wm wb ik kt kl hh pg dl er ra ck fa ft nw tu tc tr tf tt kc kr ke kd kf kg) (some (.int (iI (if ¬ mB dl nd z w = true then -100000002 else if 0 ≤ q ∧ q ≤ 3 then mLk ck dl er z.toNat w.toNat q else -100000003)))) := by
  refine kx_ROi (cc := cX4_link) (maxL := 4) (by decide) rfl (Nat.le_of_ble_eq_true rfl) ?_
  intro pr en s mi args below meth co Q hx hb hml hown hts hK hP hret ls hl
  have hown : s.vm.findClass RX4 = some mi.cls := hown
  have hl : lv_has ls 4 [(0, .ref h), (1, .int (iI z)), (2, .int (iI w)), (3, .int (iI q))] := hl
  refine lv_aload_n hx hb dX4_link_0 rfl (lv_at hl 0 rfl) ?_
  refine lv_iload_n hx hb dX4_link_1 rfl (lv_at hl 1 rfl) ?_
  refine lv_iload_n hx hb dX4_link_2 rfl (lv_at hl 2 rfl) ?_
  refine kx_cV (As := [.int (iI z), .int (iI w)]) (rest := []) (st1 := [.int (iI (if (mB dl nd z w = true) then 1 else 0))]) (q0 := 0) (ci := 4) ⟨hx, hb, hml, hown, hts⟩ (c_X4_areBeside l D cI cZ h m1 m4 m5 m6 m7 m8 m9 m21 m22 m23 m24 m25 m26 m30 m31 m32 m33 m34 m35 pl nd lk st bo ti te nr ml nn nl du nO nT wm wb ik kt kl hh pg dl er ra ck fa ft nw tu tc tr tf tt kc kr ke kd kf kg z w (by first | assumption | omega) (by first | assumption | omega) (by first | assumption | omega) (by first | assumption | omega)) (cwV 2 hts gX4_link_X4_areBeside rfl rfl rfl (by decide +kernel) ⟨Nat.le_of_ble_eq_true rfl, Nat.le_of_ble_eq_true rfl⟩) hK hP rfl rfl rfl hl.1 rfl (Nat.le_of_ble_eq_true rfl) dX4_link_3 ⟨Nat.zero_le _, Nat.zero_le _⟩ rfl ?_
  refine kx_if_neB (tgt := 12) hx hb dX4_link_6 (by decide) (fun h6 => ?_) (fun h6 => ?_)
  · skip
    refine lv_iload_n hx hb dX4_link_12 rfl (lv_at hl 3 rfl) ?_
    refine kx_const (z := 0) hx hb dX4_link_13 rfl ?_
    refine kx_const (z := 3) hx hb dX4_link_14 rfl ?_
    refine kx_cS (As := [.int (iI q), .int (iI 0), .int (iI 3)]) (rest := []) (st1 := [.int (iI (if (0 ≤ q ∧ q ≤ 3) then 1 else 0))]) ⟨hx, hb, hml, hown, hts⟩ (c_X4_within l D cI cZ q 0 3 (by first | assumption | omega) (by first | assumption | omega) (by first | assumption | omega)) (va_cwS 3 hts gX4_link_X4_within rfl rfl rfl (by decide +kernel) ⟨Nat.le_of_ble_eq_true rfl, Nat.le_of_ble_eq_true rfl⟩) hK (hP.sub (ws' := []) [] rfl) rfl hl.1 rfl (Nat.le_of_ble_eq_true rfl) dX4_link_15 ⟨Nat.zero_le _, Nat.zero_le _⟩ rfl ?_
    refine kx_if_eqB (tgt := 31) hx hb dX4_link_18 (by decide) (fun h18 => ?_) (fun h18 => ?_)
    · skip
      refine kx_ldc (z := -100000003) hx hb hown (hts (.constant RX4 79 (-100000003)) (by decide +kernel)) dX4_link_31 (by decide) ?_
      refine kx_top (b := (if ¬ mB dl nd z w = true then -100000002 else if 0 ≤ q ∧ q ≤ 3 then mLk ck dl er z.toNat w.toNat q else -100000003)) (by (repeat' split) <;> first | rfl | omega | contradiction) ?_
      exact hret _ _ dX4_link_33
    · skip
      have hbs := mB_iff.mp h6
      have hdz := hdl (6 * z.toNat + w.toNat) (by omega)
      have hdn : dl (6 * z.toNat + w.toNat) ≠ -100000001 := by have := hbs.2.2.2; rwa [show (6 * z + w).toNat = 6 * z.toNat + w.toNat by omega] at this
      refine lv_aload_n hx hb dX4_link_21 rfl (lv_at hl 0 rfl) ?_
      refine lv_iload_n hx hb dX4_link_22 rfl (lv_at hl 1 rfl) ?_
      refine kx_top (b := ((z.toNat : Nat) : Int)) (by omega) ?_
      refine lv_iload_n hx hb dX4_link_23 rfl (lv_at hl 2 rfl) ?_
      refine kx_top (b := ((w.toNat : Nat) : Int)) (by omega) ?_
      refine lv_iload_n hx hb dX4_link_24 rfl (lv_at hl 3 rfl) ?_
      refine kx_cV (As := [.int (iI ((z.toNat : Nat) : Int)), .int (iI ((w.toNat : Nat) : Int)), .int (iI q)]) (rest := []) (st1 := [.int (iI (mLk ck dl er (z.toNat) (w.toNat) q))]) (q0 := 0) (ci := 4) ⟨hx, hb, hml, hown, hts⟩ (c_X4_linkNow l D cI cZ h m1 m4 m5 m6 m7 m8 m9 m21 m22 m23 m24 m25 m26 m30 m31 m32 m33 m34 m35 pl nd lk st bo ti te nr ml nn nl du nO nT wm wb ik kt kl hh pg dl er ra ck fa ft nw tu tc tr tf tt kc kr ke kd kf kg (z.toNat) (w.toNat) q (by first | assumption | omega) (by first | assumption | omega) (by first | assumption | omega) (by first | assumption | omega) (by first | assumption | omega)) (cwV 3 hts gX4_link_X4_linkNow rfl rfl rfl (by decide +kernel) ⟨Nat.le_of_ble_eq_true rfl, Nat.le_of_ble_eq_true rfl⟩) hK hP rfl rfl rfl hl.1 rfl (Nat.le_of_ble_eq_true rfl) dX4_link_25 ⟨Nat.zero_le _, Nat.zero_le _⟩ rfl ?_
      refine lv_goto (tgt := 33) hx hb dX4_link_28 (by decide) ?_
      refine kx_top (b := (if ¬ mB dl nd z w = true then -100000002 else if 0 ≤ q ∧ q ≤ 3 then mLk ck dl er z.toNat w.toNat q else -100000003)) (by (repeat' split) <;> first | rfl | omega | contradiction) ?_
      exact hret _ _ dX4_link_33
  · skip
    refine kx_ldc (z := -100000002) hx hb hown (hts (.constant RX4 138 (-100000002)) (by decide +kernel)) dX4_link_9 (by decide) ?_
    refine kx_top (b := (if ¬ mB dl nd z w = true then -100000002 else if 0 ≤ q ∧ q ≤ 3 then mLk ck dl er z.toNat w.toNat q else -100000003)) (by (repeat' split) <;> first | rfl | omega | contradiction) ?_
    exact hret _ _ dX4_link_11
def rm_X4_fastMany : Room := ({ frames := 0, cells := 0, slots := 0, locals := 0 } : Room)
set_option maxHeartbeats 4000000 in
set_option maxRecDepth 100000 in
theorem c_X4_fastMany (l : Launch) (D : va_G) (cI cZ : ClassId) (h m1 m4 m5 m6 m7 m8 m9 m21 m22 m23 m24 m25 m26 m30 m31 m32 m33 m34 m35 : Nat) (pl nd lk st bo ti te nr ml nn nl du nO nT wm wb ik kt kl : Int) (hh : Int64) (pg dl er ra ck fa ft nw tu tc tr tf tt kc kr ke kd kf kg : Nat → Int)  (hnd : 0 ≤ nd ∧ nd ≤ 6) (hfa : ∀ k : Nat, k < 6 → fa k = 0 ∨ fa k = 1) : kRO l yX4_fastMany wsX4_fastMany rm_X4_fastMany D cI cZ [.ref h] (mdW cI cZ h m1 m4 m5 m6 m7 m8 m9 m21 m22 m23 m24 m25 m26 m30 m31 m32 m33 m34 m35 pl nd lk st bo ti te nr ml nn nl du nO nT wm wb ik kt kl hh pg dl er ra ck fa ft nw tu tc tr tf tt kc kr ke kd kf kg) (some (.int (iI (sumF fa nd.toNat)))) := by
  refine kx_ROi (cc := cX4_fastMany) (maxL := 3) (by decide) rfl (Nat.le_of_ble_eq_true rfl) ?_
  intro pr en s mi args below meth co Q hx hb hml hown hts hK hP hret ls hl
  have hown : s.vm.findClass RX4 = some mi.cls := hown
  have iX4 : ∀ w ∈ wsX40, w ∈ wsX4_fastMany := by decide +kernel
  have hl : lv_has ls 3 [(0, .ref h)] := hl
  refine kx_const (z := 0) hx hb dX4_fastMany_0 rfl ?_
  refine lv_istore_n (lv' := [(1, .int (iI 0)), (0, .ref h)]) hx hb dX4_fastMany_1 rfl hl (by decide) rfl (fun ls hl => ?_)
  refine kx_const (z := 0) hx hb dX4_fastMany_2 rfl ?_
  refine lv_istore_n (lv' := [(2, .int (iI 0)), (1, .int (iI 0)), (0, .ref h)]) hx hb dX4_fastMany_3 rfl hl (by decide) rfl (fun ls hl => ?_)
  have L4 : ∀ (fu : Nat) (v : Nat) (mo : Int), ((v : Int) ≤ nd) → (mo = sumF fa v) → nd.toNat - v < fu → ∀ ls : Array Slot, lv_has ls 3 [(0, .ref h), (1, .int (iI mo)), (2, .int (iI (v : Int)))] → W pr l en rm_X4_fastMany s mi args below meth co s.heap [] 0 0 Q (F0 mi 4 ls []) := by
    intro fu
    induction fu with
    | zero =>
      intro v mo hv hmo hfu
      exact absurd hfu (Nat.not_lt_zero _)
    | succ fu ih4 =>
      intro v mo hv hmo hfu ls hl
      refine lv_iload_n hx hb dX4_fastMany_4 rfl (lv_at hl 2 rfl) ?_
      refine lv_aload_n hx hb dX4_fastMany_5 rfl (lv_at hl 0 rfl) ?_
      refine va_get (D := D) (ci := 4) (v := .int (iI nd)) (C := RX4) (T := TX4) (N := 39) hx hb hts iX4 hown hK.1 hP 0 rfl rfl 2 (by decide) (hts (.fieldLink RX4 112 "CloseClocksModel" "nodes" "I") (by decide +kernel)) (fun _ h9 => h9) rfl dX4_fastMany_6 ?_
      refine kx_icmp_ge (tgt := 35) hx hb (by omega) (by omega) dX4_fastMany_9 (by decide) (fun h9 => ?_) (fun h9 => ?_)
      · skip
        refine lv_iload_n hx hb dX4_fastMany_35 rfl (lv_at hl 1 rfl) ?_
        refine kx_top (b := (sumF fa nd.toNat)) (by have hve : v = nd.toNat := (by omega); rw [hmo, hve]) ?_
        exact hret _ _ dX4_fastMany_36
      · skip
        refine lv_iload_n hx hb dX4_fastMany_12 rfl (lv_at hl 1 rfl) ?_
        refine lv_aload_n hx hb dX4_fastMany_13 rfl (lv_at hl 0 rfl) ?_
        refine va_get (D := D) (ci := 4) (v := .ref m8) (C := RX4) (T := TX4) (N := 39) hx hb hts iX4 hown hK.1 hP 0 rfl rfl 8 (by decide) (hts (.fieldLink RX4 25 "CloseClocksModel" "isFast" "[Z") (by decide +kernel)) (fun _ h9 => h9) rfl dX4_fastMany_14 ?_
        refine lv_iload_n hx hb dX4_fastMany_17 rfl (lv_at hl 2 rfl) ?_
        refine kx_zald (k := v) hx hb hK hP 6 rfl (by omega) (by omega) (by decide) dX4_fastMany_18 ?_
        have rg_1 := hfa v (by omega)
        refine kx_if_eq (tgt := 26) hx hb (by omega) dX4_fastMany_19 (by decide) (fun h19 => ?_) (fun h19 => ?_)
        · skip
          refine kx_const (z := 0) hx hb dX4_fastMany_26 rfl ?_
          refine kx_iadd hx hb dX4_fastMany_27 ?_
          refine lv_istore_n (lv' := [(1, .int (iI (mo + 0))), (0, .ref h), (2, .int (iI (v : Int)))]) hx hb dX4_fastMany_28 rfl hl (by decide) rfl (fun ls hl => ?_)
          refine kx_iinc (z := ((v + 1 : Nat) : Int)) (lv' := [(2, .int (iI ((v + 1 : Nat) : Int))), (1, .int (iI (mo + 0))), (0, .ref h)]) hx hb dX4_fastMany_29 hl (k0 := 2) rfl (by omega) (by decide) rfl (fun ls hl => ?_)
          refine lv_goto (tgt := 4) hx hb dX4_fastMany_32 (by decide) ?_
          exact ih4 (v + 1) (mo + 0) (by first | assumption | omega) (by rw [sumF, hmo]; have := hfa v (by omega); omega) (by omega) ls (lv_sub hl [2, 1, 0] rfl)
        · skip
          refine kx_const (z := 1) hx hb dX4_fastMany_22 rfl ?_
          refine lv_goto (tgt := 27) hx hb dX4_fastMany_23 (by decide) ?_
          refine kx_iadd hx hb dX4_fastMany_27 ?_
          refine lv_istore_n (lv' := [(1, .int (iI (mo + 1))), (0, .ref h), (2, .int (iI (v : Int)))]) hx hb dX4_fastMany_28 rfl hl (by decide) rfl (fun ls hl => ?_)
          refine kx_iinc (z := ((v + 1 : Nat) : Int)) (lv' := [(2, .int (iI ((v + 1 : Nat) : Int))), (1, .int (iI (mo + 1))), (0, .ref h)]) hx hb dX4_fastMany_29 hl (k0 := 2) rfl (by omega) (by decide) rfl (fun ls hl => ?_)
          refine lv_goto (tgt := 4) hx hb dX4_fastMany_32 (by decide) ?_
          exact ih4 (v + 1) (mo + 1) (by first | assumption | omega) (by rw [sumF, hmo]; have := hfa v (by omega); omega) (by omega) ls (lv_sub hl [2, 1, 0] rfl)
  exact L4 (nd.toNat - 0 + 1) 0 0 (by first | assumption | omega) (rfl) (Nat.lt_succ_self _) ls (lv_sub hl [2, 1, 0] rfl)
def rm_X4_howMany : Room := ({ frames := 1, cells := 0, slots := 0, locals := 22 } : Room)
set_option maxHeartbeats 4000000 in
set_option maxRecDepth 100000 in
theorem c_X4_howMany (l : Launch) (D : va_G) (cI cZ : ClassId) (h m1 m4 m5 m6 m7 m8 m9 m21 m22 m23 m24 m25 m26 m30 m31 m32 m33 m34 m35 : Nat) (pl nd lk st bo ti te nr ml nn nl du nO nT wm wb ik kt kl : Int) (hh : Int64) (pg dl er ra ck fa ft nw tu tc tr tf tt kc kr ke kd kf kg : Nat → Int) (z : Int) (hnd : 0 ≤ nd ∧ nd ≤ 6) (hfa : ∀ k : Nat, k < 6 → fa k = 0 ∨ fa k = 1) (hz : -2147483648 ≤ z ∧ z < 2147483648) : kRO l yX4_howMany wsX4_howMany rm_X4_howMany D cI cZ [.ref h, .int (iI z)] (mdW cI cZ h m1 m4 m5 m6 m7 m8 m9 m21 m22 m23 m24 m25 m26 m30 m31 m32 m33 m34 m35 pl nd lk st bo ti te nr ml nn nl du nO nT wm wb ik kt kl hh pg dl er ra ck fa ft nw tu tc tr tf tt kc kr ke kd kf kg) (some (.int (iI (mHm fa nd lk pl ti st bo nr te z)))) := by
  refine kx_ROi (cc := cX4_howMany) (maxL := 2) (by decide) rfl (Nat.le_of_ble_eq_true rfl) ?_
  intro pr en s mi args below meth co Q hx hb hml hown hts hK hP hret ls hl
  have hown : s.vm.findClass RX4 = some mi.cls := hown
  have iX4 : ∀ w ∈ wsX40, w ∈ wsX4_howMany := by decide +kernel
  have hl : lv_has ls 2 [(0, .ref h), (1, .int (iI z))] := hl
  refine lv_iload_n hx hb dX4_howMany_0 rfl (lv_at hl 1 rfl) ?_
  rcases (show (z < 0 ∨ 8 < z) ∨ z = 0 ∨ z = 1 ∨ z = 2 ∨ z = 3 ∨ z = 4 ∨ z = 5 ∨ z = 6 ∨ z = 7 ∨ z = 8 by omega) with hsw | hsw | hsw | hsw | hsw | hsw | hsw | hsw | hsw | hsw
  · skip
    refine lv_tableOut (tgt := 97) hx hb dX4_howMany_1 (by rw [iI_toInt (by omega)]; omega) (by decide) ?_
    refine kx_ldc (z := -100000003) hx hb hown (hts (.constant RX4 79 (-100000003)) (by decide +kernel)) dX4_howMany_97 (by decide) ?_
    refine kx_top (b := (mHm fa nd lk pl ti st bo nr te z)) (by unfold mHm; (repeat' split) <;> first | rfl | omega) ?_
    exact hret _ _ dX4_howMany_99
  · skip
    refine lv_tableIn (tgt := 52) hx hb dX4_howMany_1 (by rw [iI_toInt (by omega)]; omega) (by rw [iI_toInt (by omega)]; omega) (by rw [iI_toInt (by omega), hsw]; rfl) (by decide) ?_
    refine lv_aload_n hx hb dX4_howMany_52 rfl (lv_at hl 0 rfl) ?_
    refine va_get (D := D) (ci := 4) (v := .int (iI nd)) (C := RX4) (T := TX4) (N := 39) hx hb hts iX4 hown hK.1 hP 0 rfl rfl 2 (by decide) (hts (.fieldLink RX4 112 "CloseClocksModel" "nodes" "I") (by decide +kernel)) (fun _ h9 => h9) rfl dX4_howMany_53 ?_
    refine kx_top (b := (mHm fa nd lk pl ti st bo nr te z)) (by unfold mHm; (repeat' split) <;> first | rfl | omega) ?_
    exact hret _ _ dX4_howMany_56
  · skip
    refine lv_tableIn (tgt := 57) hx hb dX4_howMany_1 (by rw [iI_toInt (by omega)]; omega) (by rw [iI_toInt (by omega)]; omega) (by rw [iI_toInt (by omega), hsw]; rfl) (by decide) ?_
    refine lv_aload_n hx hb dX4_howMany_57 rfl (lv_at hl 0 rfl) ?_
    refine va_get (D := D) (ci := 4) (v := .int (iI lk)) (C := RX4) (T := TX4) (N := 39) hx hb hts iX4 hown hK.1 hP 0 rfl rfl 3 (by decide) (hts (.fieldLink RX4 115 "CloseClocksModel" "links" "I") (by decide +kernel)) (fun _ h9 => h9) rfl dX4_howMany_58 ?_
    refine kx_top (b := (mHm fa nd lk pl ti st bo nr te z)) (by unfold mHm; (repeat' split) <;> first | rfl | omega) ?_
    exact hret _ _ dX4_howMany_61
  · skip
    refine lv_tableIn (tgt := 62) hx hb dX4_howMany_1 (by rw [iI_toInt (by omega)]; omega) (by rw [iI_toInt (by omega)]; omega) (by rw [iI_toInt (by omega), hsw]; rfl) (by decide) ?_
    refine lv_aload_n hx hb dX4_howMany_62 rfl (lv_at hl 0 rfl) ?_
    refine va_get (D := D) (ci := 4) (v := .int (iI pl)) (C := RX4) (T := TX4) (N := 39) hx hb hts iX4 hown hK.1 hP 0 rfl rfl 0 (by decide) (hts (.fieldLink RX4 80 "CloseClocksModel" "pageLength" "I") (by decide +kernel)) (fun _ h9 => h9) rfl dX4_howMany_63 ?_
    refine kx_top (b := (mHm fa nd lk pl ti st bo nr te z)) (by unfold mHm; (repeat' split) <;> first | rfl | omega) ?_
    exact hret _ _ dX4_howMany_66
  · skip
    refine lv_tableIn (tgt := 67) hx hb dX4_howMany_1 (by rw [iI_toInt (by omega)]; omega) (by rw [iI_toInt (by omega)]; omega) (by rw [iI_toInt (by omega), hsw]; rfl) (by decide) ?_
    refine lv_aload_n hx hb dX4_howMany_67 rfl (lv_at hl 0 rfl) ?_
    refine va_get (D := D) (ci := 4) (v := .int (iI ti)) (C := RX4) (T := TX4) (N := 39) hx hb hts iX4 hown hK.1 hP 0 rfl rfl 12 (by decide) (hts (.fieldLink RX4 122 "CloseClocksModel" "ticks" "I") (by decide +kernel)) (fun _ h9 => h9) rfl dX4_howMany_68 ?_
    refine kx_top (b := (mHm fa nd lk pl ti st bo nr te z)) (by unfold mHm; (repeat' split) <;> first | rfl | omega) ?_
    exact hret _ _ dX4_howMany_71
  · skip
    refine lv_tableIn (tgt := 72) hx hb dX4_howMany_1 (by rw [iI_toInt (by omega)]; omega) (by rw [iI_toInt (by omega)]; omega) (by rw [iI_toInt (by omega), hsw]; rfl) (by decide) ?_
    refine lv_aload_n hx hb dX4_howMany_72 rfl (lv_at hl 0 rfl) ?_
    refine va_get (D := D) (ci := 4) (v := .int (iI st)) (C := RX4) (T := TX4) (N := 39) hx hb hts iX4 hown hK.1 hP 0 rfl rfl 10 (by decide) (hts (.fieldLink RX4 32 "CloseClocksModel" "step" "I") (by decide +kernel)) (fun _ h9 => h9) rfl dX4_howMany_73 ?_
    refine kx_top (b := (mHm fa nd lk pl ti st bo nr te z)) (by unfold mHm; (repeat' split) <;> first | rfl | omega) ?_
    exact hret _ _ dX4_howMany_76
  · skip
    refine lv_tableIn (tgt := 77) hx hb dX4_howMany_1 (by rw [iI_toInt (by omega)]; omega) (by rw [iI_toInt (by omega)]; omega) (by rw [iI_toInt (by omega), hsw]; rfl) (by decide) ?_
    refine lv_aload_n hx hb dX4_howMany_77 rfl (lv_at hl 0 rfl) ?_
    refine va_get (D := D) (ci := 4) (v := .int (iI bo)) (C := RX4) (T := TX4) (N := 39) hx hb hts iX4 hown hK.1 hP 0 rfl rfl 11 (by decide) (hts (.fieldLink RX4 36 "CloseClocksModel" "boost" "I") (by decide +kernel)) (fun _ h9 => h9) rfl dX4_howMany_78 ?_
    refine kx_top (b := (mHm fa nd lk pl ti st bo nr te z)) (by unfold mHm; (repeat' split) <;> first | rfl | omega) ?_
    exact hret _ _ dX4_howMany_81
  · skip
    refine lv_tableIn (tgt := 82) hx hb dX4_howMany_1 (by rw [iI_toInt (by omega)]; omega) (by rw [iI_toInt (by omega)]; omega) (by rw [iI_toInt (by omega), hsw]; rfl) (by decide) ?_
    refine lv_aload_n hx hb dX4_howMany_82 rfl (lv_at hl 0 rfl) ?_
    refine kx_cV (As := []) (rest := []) (st1 := [.int (iI (sumF fa nd.toNat))]) (q0 := 0) (ci := 4) ⟨hx, hb, hml, hown, hts⟩ (c_X4_fastMany l D cI cZ h m1 m4 m5 m6 m7 m8 m9 m21 m22 m23 m24 m25 m26 m30 m31 m32 m33 m34 m35 pl nd lk st bo ti te nr ml nn nl du nO nT wm wb ik kt kl hh pg dl er ra ck fa ft nw tu tc tr tf tt kc kr ke kd kf kg (by first | assumption | omega) (by first | assumption | omega)) (cwV 0 hts gX4_howMany_X4_fastMany rfl rfl rfl (by decide +kernel) ⟨Nat.le_of_ble_eq_true rfl, Nat.le_of_ble_eq_true rfl⟩) hK hP rfl rfl rfl hl.1 rfl (Nat.le_of_ble_eq_true rfl) dX4_howMany_83 ⟨Nat.zero_le _, Nat.zero_le _⟩ rfl ?_
    refine kx_top (b := (mHm fa nd lk pl ti st bo nr te z)) (by unfold mHm; (repeat' split) <;> first | rfl | omega) ?_
    exact hret _ _ dX4_howMany_86
  · skip
    refine lv_tableIn (tgt := 87) hx hb dX4_howMany_1 (by rw [iI_toInt (by omega)]; omega) (by rw [iI_toInt (by omega)]; omega) (by rw [iI_toInt (by omega), hsw]; rfl) (by decide) ?_
    refine lv_aload_n hx hb dX4_howMany_87 rfl (lv_at hl 0 rfl) ?_
    refine va_get (D := D) (ci := 4) (v := .int (iI nr)) (C := RX4) (T := TX4) (N := 39) hx hb hts iX4 hown hK.1 hP 0 rfl rfl 14 (by decide) (hts (.fieldLink RX4 132 "CloseClocksModel" "netsRead" "I") (by decide +kernel)) (fun _ h9 => h9) rfl dX4_howMany_88 ?_
    refine kx_top (b := (mHm fa nd lk pl ti st bo nr te z)) (by unfold mHm; (repeat' split) <;> first | rfl | omega) ?_
    exact hret _ _ dX4_howMany_91
  · skip
    refine lv_tableIn (tgt := 92) hx hb dX4_howMany_1 (by rw [iI_toInt (by omega)]; omega) (by rw [iI_toInt (by omega)]; omega) (by rw [iI_toInt (by omega), hsw]; rfl) (by decide) ?_
    refine lv_aload_n hx hb dX4_howMany_92 rfl (lv_at hl 0 rfl) ?_
    refine va_get (D := D) (ci := 4) (v := .int (iI te)) (C := RX4) (T := TX4) (N := 39) hx hb hts iX4 hown hK.1 hP 0 rfl rfl 13 (by decide) (hts (.fieldLink RX4 169 "CloseClocksModel" "ticksEver" "I") (by decide +kernel)) (fun _ h9 => h9) rfl dX4_howMany_93 ?_
    refine kx_top (b := (mHm fa nd lk pl ti st bo nr te z)) (by unfold mHm; (repeat' split) <;> first | rfl | omega) ?_
    exact hret _ _ dX4_howMany_96
def rm_X4_count : Room := ({ frames := 2, cells := 0, slots := 0, locals := 43 } : Room)
set_option maxHeartbeats 4000000 in
set_option maxRecDepth 100000 in
theorem c_X4_count (l : Launch) (D : va_G) (cI cZ : ClassId) (h m1 m4 m5 m6 m7 m8 m9 m21 m22 m23 m24 m25 m26 m30 m31 m32 m33 m34 m35 : Nat) (pl nd lk st bo ti te nr ml nn nl du nO nT wm wb ik kt kl : Int) (hh : Int64) (pg dl er ra ck fa ft nw tu tc tr tf tt kc kr ke kd kf kg : Nat → Int) (z : Int) (hnd : 0 ≤ nd ∧ nd ≤ 6) (hfa : ∀ k : Nat, k < 6 → fa k = 0 ∨ fa k = 1) (hz : -2147483648 ≤ z ∧ z < 2147483648) : kRO l yX4_count wsX4_count rm_X4_count D cI cZ [.ref h, .int (iI z)] (mdW cI cZ h m1 m4 m5 m6 m7 m8 m9 m21 m22 m23 m24 m25 m26 m30 m31 m32 m33 m34 m35 pl nd lk st bo ti te nr ml nn nl du nO nT wm wb ik kt kl hh pg dl er ra ck fa ft nw tu tc tr tf tt kc kr ke kd kf kg) (some (.int (iI (mHm fa nd lk pl ti st bo nr te z)))) := by
  refine kx_ROi (cc := cX4_count) (maxL := 2) (by decide) rfl (Nat.le_of_ble_eq_true rfl) ?_
  intro pr en s mi args below meth co Q hx hb hml hown hts hK hP hret ls hl
  have hown : s.vm.findClass RX4 = some mi.cls := hown
  have hl : lv_has ls 2 [(0, .ref h), (1, .int (iI z))] := hl
  refine lv_aload_n hx hb dX4_count_0 rfl (lv_at hl 0 rfl) ?_
  refine lv_iload_n hx hb dX4_count_1 rfl (lv_at hl 1 rfl) ?_
  refine kx_cV (As := [.int (iI z)]) (rest := []) (st1 := [.int (iI (mHm fa nd lk pl ti st bo nr te z))]) (q0 := 0) (ci := 4) ⟨hx, hb, hml, hown, hts⟩ (c_X4_howMany l D cI cZ h m1 m4 m5 m6 m7 m8 m9 m21 m22 m23 m24 m25 m26 m30 m31 m32 m33 m34 m35 pl nd lk st bo ti te nr ml nn nl du nO nT wm wb ik kt kl hh pg dl er ra ck fa ft nw tu tc tr tf tt kc kr ke kd kf kg z (by first | assumption | omega) (by first | assumption | omega) (by first | assumption | omega)) (cwV 1 hts gX4_count_X4_howMany rfl rfl rfl (by decide +kernel) ⟨Nat.le_of_ble_eq_true rfl, Nat.le_of_ble_eq_true rfl⟩) hK hP rfl rfl rfl hl.1 rfl (Nat.le_of_ble_eq_true rfl) dX4_count_2 ⟨Nat.zero_le _, Nat.zero_le _⟩ rfl ?_
  exact hret _ _ dX4_count_5
def rm_X4_hopsNow : Room := ({ frames := 3, cells := 0, slots := 0, locals := 65 } : Room)
set_option maxHeartbeats 4000000 in
set_option maxRecDepth 100000 in
theorem c_X4_hopsNow (l : Launch) (D : va_G) (cI cZ : ClassId) (h m1 m4 m5 m6 m7 m8 m9 m21 m22 m23 m24 m25 m26 m30 m31 m32 m33 m34 m35 : Nat) (pl nd lk st bo ti te nr ml nn nl du nO nT wm wb ik kt kl : Int) (hh : Int64) (pg dl er ra ck fa ft nw tu tc tr tf tt kc kr ke kd kf kg : Nat → Int) (v w : Nat) (hv : v < 6) (hw : w < 6) (hnd : 0 ≤ nd ∧ nd ≤ 6) (hdl : ∀ k : Nat, k < 36 → dl k = -100000001 ∨ (0 ≤ dl k ∧ dl k ≤ 3)) : kRO l yX4_hopsNow wsX4_hopsNow rm_X4_hopsNow D cI cZ [.ref h, .int (iI (v : Int)), .int (iI (w : Int))] (mdW cI cZ h m1 m4 m5 m6 m7 m8 m9 m21 m22 m23 m24 m25 m26 m30 m31 m32 m33 m34 m35 pl nd lk st bo ti te nr ml nn nl du nO nT wm wb ik kt kl hh pg dl er ra ck fa ft nw tu tc tr tf tt kc kr ke kd kf kg) (some (.int (iI (mHs dl nd v w)))) := by
  refine kx_ROi (cc := cX4_hopsNow) (maxL := 7) (by decide) rfl (Nat.le_of_ble_eq_true rfl) ?_
  intro pr en s mi args below meth co Q hx hb hml hown hts hK hP hret ls hl
  have hown : s.vm.findClass RX4 = some mi.cls := hown
  have hl : lv_has ls 7 [(0, .ref h), (1, .int (iI (v : Int))), (2, .int (iI (w : Int)))] := hl
  have hpv := p6_lt hv
  refine kx_const (z := 1) hx hb dX4_hopsNow_0 rfl ?_
  refine lv_iload_n hx hb dX4_hopsNow_1 rfl (lv_at hl 1 rfl) ?_
  refine kx_ishl (n := 1) (w := v) hx hb (by omega) (by rw [Nat.one_mul]; have := p6_lt (show v < 6 by omega); omega) dX4_hopsNow_2 ?_
  refine kx_top (b := ((2 ^ v : Nat) : Int)) (by rw [Nat.one_mul]) ?_
  refine lv_istore_n (lv' := [(3, .int (iI ((2 ^ v : Nat) : Int))), (0, .ref h), (1, .int (iI (v : Int))), (2, .int (iI (w : Int)))]) hx hb dX4_hopsNow_3 rfl hl (by decide) rfl (fun ls hl => ?_)
  refine kx_const (z := 0) hx hb dX4_hopsNow_4 rfl ?_
  refine lv_istore (lv' := [(4, .int (iI 0)), (3, .int (iI ((2 ^ v : Nat) : Int))), (0, .ref h), (1, .int (iI (v : Int))), (2, .int (iI (w : Int)))]) hx hb dX4_hopsNow_5 hl (by decide) rfl (fun ls hl => ?_)
  have L7 : ∀ (fu : Nat) (mt : Nat) (hp : Nat) (fl : Nat), (mt < 64) → (64 ≤ fl + mt) → (hp ≤ mt) → (mHo (mBn dl nd) w fl mt hp = mHs dl nd v w) → 64 - mt < fu → ∀ ls : Array Slot, lv_has ls 7 [(0, .ref h), (1, .int (iI (v : Int))), (2, .int (iI (w : Int))), (3, .int (iI (mt : Int))), (4, .int (iI (hp : Int)))] → W pr l en rm_X4_hopsNow s mi args below meth co s.heap [] 0 0 Q (F0 mi 7 ls []) := by
    intro fu
    induction fu with
    | zero =>
      intro mt hp fl hmt hfl hhp hr hfu
      exact absurd hfu (Nat.not_lt_zero _)
    | succ fu ih7 =>
      intro mt hp fl hmt hfl hhp hr hfu ls hl
      obtain ⟨fl1, rfl⟩ : ∃ z, fl = z + 1 := ⟨fl - 1, by omega⟩
      have htb := tb_iff mt w
      have hre := mRe_ge (mBn dl nd) mt 36
      have hrl := mRe_lt (mBn dl nd) hmt 36
      refine lv_iload_n hx hb dX4_hopsNow_7 rfl (lv_at hl 3 rfl) ?_
      refine lv_iload_n hx hb dX4_hopsNow_8 rfl (lv_at hl 2 rfl) ?_
      refine kx_ishr (n := mt) (w := w) hx hb (by omega) (by omega) dX4_hopsNow_9 ?_
      refine kx_const (z := 1) hx hb dX4_hopsNow_10 rfl ?_
      refine kx_iand1 (n := (mt / 2 ^ w)) hx hb (by have := Nat.div_le_self mt (2 ^ w); omega) dX4_hopsNow_11 ?_
      refine kx_if_ne (tgt := 98) hx hb (by omega) dX4_hopsNow_12 (by decide) (fun h12 => ?_) (fun h12 => ?_)
      · skip
        refine lv_iload hx hb dX4_hopsNow_98 (lv_at hl 4 rfl) ?_
        refine kx_top (b := (mHs dl nd v w)) (by rw [← hr, mHo, if_pos (by rw [htb]; omega)]) ?_
        exact hret _ _ dX4_hopsNow_100
      · skip
        refine lv_iload_n hx hb dX4_hopsNow_15 rfl (lv_at hl 3 rfl) ?_
        refine lv_istore (lv' := [(5, .int (iI (mt : Int))), (0, .ref h), (1, .int (iI (v : Int))), (2, .int (iI (w : Int))), (3, .int (iI (mt : Int))), (4, .int (iI (hp : Int)))]) hx hb dX4_hopsNow_16 hl (by decide) rfl (fun ls hl => ?_)
        refine kx_const (z := 0) hx hb dX4_hopsNow_18 rfl ?_
        refine lv_istore (lv' := [(6, .int (iI 0)), (5, .int (iI (mt : Int))), (0, .ref h), (1, .int (iI (v : Int))), (2, .int (iI (w : Int))), (3, .int (iI (mt : Int))), (4, .int (iI (hp : Int)))]) hx hb dX4_hopsNow_19 hl (by decide) rfl (fun ls hl => ?_)
        have L21 : ∀ (fu : Nat) (k : Nat) (mo : Nat), (k ≤ 36) → (mo = mRe (mBn dl nd) mt k) → (mo < 64) → 36 - k < fu → ∀ ls : Array Slot, lv_has ls 7 [(0, .ref h), (1, .int (iI (v : Int))), (2, .int (iI (w : Int))), (3, .int (iI (mt : Int))), (4, .int (iI (hp : Int))), (5, .int (iI (mo : Int))), (6, .int (iI (k : Int)))] → W pr l en rm_X4_hopsNow s mi args below meth co s.heap [] 0 0 Q (F0 mi 21 ls []) := by
          intro fu
          induction fu with
          | zero =>
            intro k mo hk hmo hmb hfu
            exact absurd hfu (Nat.not_lt_zero _)
          | succ fu ih21 =>
            intro k mo hk hmo hmb hfu ls hl
            refine lv_iload hx hb dX4_hopsNow_21 (lv_at hl 6 rfl) ?_
            refine kx_bipush (z := 36) hx hb dX4_hopsNow_23 (by decide) ?_
            refine kx_icmp_ge (tgt := 80) hx hb (by omega) (by omega) dX4_hopsNow_25 (by decide) (fun h25 => ?_) (fun h25 => ?_)
            · skip
              have hke : k = 36 := by omega
              have hme : mo = mRe (mBn dl nd) mt 36 := by rw [hmo, hke]
              refine lv_iload hx hb dX4_hopsNow_80 (lv_at hl 5 rfl) ?_
              refine lv_iload_n hx hb dX4_hopsNow_82 rfl (lv_at hl 3 rfl) ?_
              refine kx_icmp_ne (tgt := 89) hx hb (by omega) (by omega) dX4_hopsNow_83 (by decide) (fun h83 => ?_) (fun h83 => ?_)
              · skip
                refine lv_iload hx hb dX4_hopsNow_89 (lv_at hl 5 rfl) ?_
                refine lv_istore_n (lv' := [(3, .int (iI (mo : Int))), (0, .ref h), (1, .int (iI (v : Int))), (2, .int (iI (w : Int))), (4, .int (iI (hp : Int))), (5, .int (iI (mo : Int))), (6, .int (iI (k : Int)))]) hx hb dX4_hopsNow_91 rfl hl (by decide) rfl (fun ls hl => ?_)
                refine kx_iinc (z := ((hp + 1 : Nat) : Int)) (lv' := [(4, .int (iI ((hp + 1 : Nat) : Int))), (3, .int (iI (mo : Int))), (0, .ref h), (1, .int (iI (v : Int))), (2, .int (iI (w : Int))), (5, .int (iI (mo : Int))), (6, .int (iI (k : Int)))]) hx hb dX4_hopsNow_92 hl (k0 := 4) rfl (by omega) (by decide) rfl (fun ls hl => ?_)
                refine lv_goto (tgt := 7) hx hb dX4_hopsNow_95 (by decide) ?_
                exact ih7 mo (hp + 1) fl1 (by first | assumption | omega) (by first | assumption | omega) (by first | assumption | omega) (by rw [← hr, mHo, if_neg (by rw [htb]; omega), if_neg (by omega), hme]) (by omega) ls (lv_sub hl [2, 3, 4, 1, 0] rfl)
              · skip
                refine kx_ldc (z := -100000001) hx hb hown (hts (.constant RX4 96 (-100000001)) (by decide +kernel)) dX4_hopsNow_86 (by decide) ?_
                refine kx_top (b := (mHs dl nd v w)) (by rw [← hr, mHo, if_neg (by rw [htb]; omega), if_pos (by omega)]) ?_
                exact hret _ _ dX4_hopsNow_88
            · skip
              refine lv_iload hx hb dX4_hopsNow_28 (lv_at hl 5 rfl) ?_
              refine lv_iload_n hx hb dX4_hopsNow_30 rfl (lv_at hl 3 rfl) ?_
              refine lv_iload hx hb dX4_hopsNow_31 (lv_at hl 6 rfl) ?_
              refine kx_bipush (z := 6) hx hb dX4_hopsNow_33 (by decide) ?_
              refine kx_idiv hx hb (by omega) (by omega) dX4_hopsNow_35 ?_
              refine kx_ishr (n := mt) (w := (k / 6)) hx hb (by omega) (by omega) dX4_hopsNow_36 ?_
              refine kx_const (z := 1) hx hb dX4_hopsNow_37 rfl ?_
              refine kx_iand1 (n := (mt / 2 ^ (k / 6))) hx hb (by have := Nat.div_le_self mt (2 ^ (k / 6)); omega) dX4_hopsNow_38 ?_
              refine kx_const (z := 1) hx hb dX4_hopsNow_39 rfl ?_
              refine kx_icmp_ne (tgt := 70) hx hb (by omega) (by omega) dX4_hopsNow_40 (by decide) (fun h40 => ?_) (fun h40 => ?_)
              · skip
                refine kx_const (z := 0) hx hb dX4_hopsNow_70 rfl ?_
                refine kx_ior (n := mo) (w := 0) hx hb dX4_hopsNow_71 ?_
                refine lv_istore (lv' := [(5, .int (iI ((mo ||| 0 : Nat) : Int))), (0, .ref h), (1, .int (iI (v : Int))), (2, .int (iI (w : Int))), (3, .int (iI (mt : Int))), (4, .int (iI (hp : Int))), (6, .int (iI (k : Int)))]) hx hb dX4_hopsNow_72 hl (by decide) rfl (fun ls hl => ?_)
                refine kx_iinc (z := ((k + 1 : Nat) : Int)) (lv' := [(6, .int (iI ((k + 1 : Nat) : Int))), (5, .int (iI ((mo ||| 0 : Nat) : Int))), (0, .ref h), (1, .int (iI (v : Int))), (2, .int (iI (w : Int))), (3, .int (iI (mt : Int))), (4, .int (iI (hp : Int)))]) hx hb dX4_hopsNow_74 hl (k0 := 6) rfl (by omega) (by decide) rfl (fun ls hl => ?_)
                refine lv_goto (tgt := 21) hx hb dX4_hopsNow_77 (by decide) ?_
                exact ih21 (k + 1) (mo ||| 0) (by first | assumption | omega) (by rw [mRe]; first | (rw [if_neg (fun q => by first | exact h57 q.2 | (have q1 := (tb_iff mt (k / 6)).mp q.1; omega)), hmo, Nat.or_zero]) | (rw [if_pos ⟨(tb_iff mt (k / 6)).mpr (by omega), h57⟩, hmo])) (by first | exact or6_lt hmb (p6_lt (Nat.mod_lt _ (by omega))) | exact or6_lt hmb (by omega)) (by omega) ls (lv_sub hl [2, 3, 4, 5, 6, 1, 0] rfl)
              · skip
                refine lv_aload_n hx hb dX4_hopsNow_43 rfl (lv_at hl 0 rfl) ?_
                refine lv_iload hx hb dX4_hopsNow_44 (lv_at hl 6 rfl) ?_
                refine kx_bipush (z := 6) hx hb dX4_hopsNow_46 (by decide) ?_
                refine kx_idiv hx hb (by omega) (by omega) dX4_hopsNow_48 ?_
                refine kx_top (b := ((k / 6 : Nat) : Int)) (by omega) ?_
                refine lv_iload hx hb dX4_hopsNow_49 (lv_at hl 6 rfl) ?_
                refine kx_bipush (z := 6) hx hb dX4_hopsNow_51 (by decide) ?_
                refine kx_irem hx hb (by omega) (by omega) dX4_hopsNow_53 ?_
                refine kx_top (b := ((k % 6 : Nat) : Int)) (by omega) ?_
                refine kx_cV (As := [.int (iI ((k / 6 : Nat) : Int)), .int (iI ((k % 6 : Nat) : Int))]) (rest := [.int (iI (mo : Int))]) (st1 := [.int (iI (if (mB dl nd ((k / 6 : Nat) : Int) ((k % 6 : Nat) : Int) = true) then 1 else 0)), .int (iI (mo : Int))]) (q0 := 0) (ci := 4) ⟨hx, hb, hml, hown, hts⟩ (c_X4_areBeside l D cI cZ h m1 m4 m5 m6 m7 m8 m9 m21 m22 m23 m24 m25 m26 m30 m31 m32 m33 m34 m35 pl nd lk st bo ti te nr ml nn nl du nO nT wm wb ik kt kl hh pg dl er ra ck fa ft nw tu tc tr tf tt kc kr ke kd kf kg ((k / 6 : Nat) : Int) ((k % 6 : Nat) : Int) (by first | assumption | omega) (by first | assumption | omega) (by first | assumption | omega) (by first | assumption | omega)) (cwV 2 hts gX4_hopsNow_X4_areBeside rfl rfl rfl (by decide +kernel) ⟨Nat.le_of_ble_eq_true rfl, Nat.le_of_ble_eq_true rfl⟩) hK hP rfl rfl rfl hl.1 rfl (Nat.le_of_ble_eq_true rfl) dX4_hopsNow_54 ⟨Nat.zero_le _, Nat.zero_le _⟩ rfl ?_
                refine kx_if_eqB (tgt := 70) hx hb dX4_hopsNow_57 (by decide) (fun h57 => ?_) (fun h57 => ?_)
                · skip
                  refine kx_const (z := 0) hx hb dX4_hopsNow_70 rfl ?_
                  refine kx_ior (n := mo) (w := 0) hx hb dX4_hopsNow_71 ?_
                  refine lv_istore (lv' := [(5, .int (iI ((mo ||| 0 : Nat) : Int))), (0, .ref h), (1, .int (iI (v : Int))), (2, .int (iI (w : Int))), (3, .int (iI (mt : Int))), (4, .int (iI (hp : Int))), (6, .int (iI (k : Int)))]) hx hb dX4_hopsNow_72 hl (by decide) rfl (fun ls hl => ?_)
                  refine kx_iinc (z := ((k + 1 : Nat) : Int)) (lv' := [(6, .int (iI ((k + 1 : Nat) : Int))), (5, .int (iI ((mo ||| 0 : Nat) : Int))), (0, .ref h), (1, .int (iI (v : Int))), (2, .int (iI (w : Int))), (3, .int (iI (mt : Int))), (4, .int (iI (hp : Int)))]) hx hb dX4_hopsNow_74 hl (k0 := 6) rfl (by omega) (by decide) rfl (fun ls hl => ?_)
                  refine lv_goto (tgt := 21) hx hb dX4_hopsNow_77 (by decide) ?_
                  exact ih21 (k + 1) (mo ||| 0) (by first | assumption | omega) (by rw [mRe]; first | (rw [if_neg (fun q => by first | exact h57 q.2 | (have q1 := (tb_iff mt (k / 6)).mp q.1; omega)), hmo, Nat.or_zero]) | (rw [if_pos ⟨(tb_iff mt (k / 6)).mpr (by omega), h57⟩, hmo])) (by first | exact or6_lt hmb (p6_lt (Nat.mod_lt _ (by omega))) | exact or6_lt hmb (by omega)) (by omega) ls (lv_sub hl [2, 3, 4, 5, 6, 1, 0] rfl)
                · skip
                  refine kx_const (z := 1) hx hb dX4_hopsNow_60 rfl ?_
                  refine lv_iload hx hb dX4_hopsNow_61 (lv_at hl 6 rfl) ?_
                  refine kx_bipush (z := 6) hx hb dX4_hopsNow_63 (by decide) ?_
                  refine kx_irem hx hb (by omega) (by omega) dX4_hopsNow_65 ?_
                  refine kx_top (b := ((k % 6 : Nat) : Int)) (by omega) ?_
                  refine kx_ishl (n := 1) (w := (k % 6)) hx hb (by omega) (by rw [Nat.one_mul]; have := p6_lt (show k % 6 < 6 by omega); omega) dX4_hopsNow_66 ?_
                  refine kx_top (b := ((2 ^ (k % 6) : Nat) : Int)) (by rw [Nat.one_mul]) ?_
                  refine lv_goto (tgt := 71) hx hb dX4_hopsNow_67 (by decide) ?_
                  refine kx_ior (n := mo) (w := (2 ^ (k % 6))) hx hb dX4_hopsNow_71 ?_
                  refine lv_istore (lv' := [(5, .int (iI ((mo ||| (2 ^ (k % 6)) : Nat) : Int))), (0, .ref h), (1, .int (iI (v : Int))), (2, .int (iI (w : Int))), (3, .int (iI (mt : Int))), (4, .int (iI (hp : Int))), (6, .int (iI (k : Int)))]) hx hb dX4_hopsNow_72 hl (by decide) rfl (fun ls hl => ?_)
                  refine kx_iinc (z := ((k + 1 : Nat) : Int)) (lv' := [(6, .int (iI ((k + 1 : Nat) : Int))), (5, .int (iI ((mo ||| (2 ^ (k % 6)) : Nat) : Int))), (0, .ref h), (1, .int (iI (v : Int))), (2, .int (iI (w : Int))), (3, .int (iI (mt : Int))), (4, .int (iI (hp : Int)))]) hx hb dX4_hopsNow_74 hl (k0 := 6) rfl (by omega) (by decide) rfl (fun ls hl => ?_)
                  refine lv_goto (tgt := 21) hx hb dX4_hopsNow_77 (by decide) ?_
                  exact ih21 (k + 1) (mo ||| (2 ^ (k % 6))) (by first | assumption | omega) (by rw [mRe]; first | (rw [if_neg (fun q => by first | exact h57 q.2 | (have q1 := (tb_iff mt (k / 6)).mp q.1; omega)), hmo, Nat.or_zero]) | (rw [if_pos ⟨(tb_iff mt (k / 6)).mpr (by omega), h57⟩, hmo])) (by first | exact or6_lt hmb (p6_lt (Nat.mod_lt _ (by omega))) | exact or6_lt hmb (by omega)) (by omega) ls (lv_sub hl [2, 3, 4, 5, 6, 1, 0] rfl)
        exact L21 (36 - 0 + 1) 0 mt (by first | assumption | omega) (rfl) (by first | assumption | omega) (Nat.lt_succ_self _) ls (lv_sub hl [2, 3, 4, 5, 6, 1, 0] rfl)
  exact L7 (64 - (2 ^ v) + 1) (2 ^ v) 0 64 (by first | assumption | omega) (Nat.le_add_right 64 _) (Nat.zero_le _) (rfl) (Nat.lt_succ_self _) ls (lv_sub hl [2, 3, 4, 1, 0] rfl)
def rm_X4_hops : Room := ({ frames := 4, cells := 0, slots := 0, locals := 91 } : Room)
set_option maxHeartbeats 4000000 in
set_option maxRecDepth 100000 in
theorem c_X4_hops (l : Launch) (D : va_G) (cI cZ : ClassId) (h m1 m4 m5 m6 m7 m8 m9 m21 m22 m23 m24 m25 m26 m30 m31 m32 m33 m34 m35 : Nat) (pl nd lk st bo ti te nr ml nn nl du nO nT wm wb ik kt kl : Int) (hh : Int64) (pg dl er ra ck fa ft nw tu tc tr tf tt kc kr ke kd kf kg : Nat → Int) (z w : Int) (hnd : 0 ≤ nd ∧ nd ≤ 6) (hdl : ∀ k : Nat, k < 36 → dl k = -100000001 ∨ (0 ≤ dl k ∧ dl k ≤ 3)) (hz : -2147483648 ≤ z ∧ z < 2147483648) (hw : -2147483648 ≤ w ∧ w < 2147483648) : kRO l yX4_hops wsX4_hops rm_X4_hops D cI cZ [.ref h, .int (iI z), .int (iI w)] (mdW cI cZ h m1 m4 m5 m6 m7 m8 m9 m21 m22 m23 m24 m25 m26 m30 m31 m32 m33 m34 m35 pl nd lk st bo ti te nr ml nn nl du nO nT wm wb ik kt kl hh pg dl er ra ck fa ft nw tu tc tr tf tt kc kr ke kd kf kg) (some (.int (iI (if (0 ≤ z ∧ z ≤ nd - 1) ∧ (0 ≤ w ∧ w ≤ nd - 1) then mHs dl nd z.toNat w.toNat else -100000002)))) := by
  refine kx_ROi (cc := cX4_hops) (maxL := 3) (by decide) rfl (Nat.le_of_ble_eq_true rfl) ?_
  intro pr en s mi args below meth co Q hx hb hml hown hts hK hP hret ls hl
  have hown : s.vm.findClass RX4 = some mi.cls := hown
  have hl : lv_has ls 3 [(0, .ref h), (1, .int (iI z)), (2, .int (iI w))] := hl
  refine lv_aload_n hx hb dX4_hops_0 rfl (lv_at hl 0 rfl) ?_
  refine lv_iload_n hx hb dX4_hops_1 rfl (lv_at hl 1 rfl) ?_
  refine kx_cV (As := [.int (iI z)]) (rest := []) (st1 := [.int (iI (if (0 ≤ z ∧ z ≤ (nd - 1)) then 1 else 0))]) (q0 := 0) (ci := 4) ⟨hx, hb, hml, hown, hts⟩ (c_X4_isNode l D cI cZ h m1 m4 m5 m6 m7 m8 m9 m21 m22 m23 m24 m25 m26 m30 m31 m32 m33 m34 m35 pl nd lk st bo ti te nr ml nn nl du nO nT wm wb ik kt kl hh pg dl er ra ck fa ft nw tu tc tr tf tt kc kr ke kd kf kg z (by first | assumption | omega) (by first | assumption | omega)) (cwV 1 hts gX4_hops_X4_isNode rfl rfl rfl (by decide +kernel) ⟨Nat.le_of_ble_eq_true rfl, Nat.le_of_ble_eq_true rfl⟩) hK hP rfl rfl rfl hl.1 rfl (Nat.le_of_ble_eq_true rfl) dX4_hops_2 ⟨Nat.zero_le _, Nat.zero_le _⟩ rfl ?_
  refine kx_if_eqB (tgt := 25) hx hb dX4_hops_5 (by decide) (fun h5 => ?_) (fun h5 => ?_)
  · skip
    refine kx_ldc (z := -100000002) hx hb hown (hts (.constant RX4 138 (-100000002)) (by decide +kernel)) dX4_hops_25 (by decide) ?_
    refine kx_top (b := (if (0 ≤ z ∧ z ≤ nd - 1) ∧ (0 ≤ w ∧ w ≤ nd - 1) then mHs dl nd z.toNat w.toNat else -100000002)) (by (repeat' split) <;> first | rfl | omega) ?_
    exact hret _ _ dX4_hops_27
  · skip
    refine lv_aload_n hx hb dX4_hops_8 rfl (lv_at hl 0 rfl) ?_
    refine lv_iload_n hx hb dX4_hops_9 rfl (lv_at hl 2 rfl) ?_
    refine kx_cV (As := [.int (iI w)]) (rest := []) (st1 := [.int (iI (if (0 ≤ w ∧ w ≤ (nd - 1)) then 1 else 0))]) (q0 := 0) (ci := 4) ⟨hx, hb, hml, hown, hts⟩ (c_X4_isNode l D cI cZ h m1 m4 m5 m6 m7 m8 m9 m21 m22 m23 m24 m25 m26 m30 m31 m32 m33 m34 m35 pl nd lk st bo ti te nr ml nn nl du nO nT wm wb ik kt kl hh pg dl er ra ck fa ft nw tu tc tr tf tt kc kr ke kd kf kg w (by first | assumption | omega) (by first | assumption | omega)) (cwV 1 hts gX4_hops_X4_isNode rfl rfl rfl (by decide +kernel) ⟨Nat.le_of_ble_eq_true rfl, Nat.le_of_ble_eq_true rfl⟩) hK hP rfl rfl rfl hl.1 rfl (Nat.le_of_ble_eq_true rfl) dX4_hops_10 ⟨Nat.zero_le _, Nat.zero_le _⟩ rfl ?_
    refine kx_if_eqB (tgt := 25) hx hb dX4_hops_13 (by decide) (fun h13 => ?_) (fun h13 => ?_)
    · skip
      refine kx_ldc (z := -100000002) hx hb hown (hts (.constant RX4 138 (-100000002)) (by decide +kernel)) dX4_hops_25 (by decide) ?_
      refine kx_top (b := (if (0 ≤ z ∧ z ≤ nd - 1) ∧ (0 ≤ w ∧ w ≤ nd - 1) then mHs dl nd z.toNat w.toNat else -100000002)) (by (repeat' split) <;> first | rfl | omega) ?_
      exact hret _ _ dX4_hops_27
    · skip
      refine lv_aload_n hx hb dX4_hops_16 rfl (lv_at hl 0 rfl) ?_
      refine lv_iload_n hx hb dX4_hops_17 rfl (lv_at hl 1 rfl) ?_
      refine kx_top (b := ((z.toNat : Nat) : Int)) (by omega) ?_
      refine lv_iload_n hx hb dX4_hops_18 rfl (lv_at hl 2 rfl) ?_
      refine kx_top (b := ((w.toNat : Nat) : Int)) (by omega) ?_
      refine kx_cV (As := [.int (iI ((z.toNat : Nat) : Int)), .int (iI ((w.toNat : Nat) : Int))]) (rest := []) (st1 := [.int (iI (mHs dl nd (z.toNat) (w.toNat)))]) (q0 := 0) (ci := 4) ⟨hx, hb, hml, hown, hts⟩ (c_X4_hopsNow l D cI cZ h m1 m4 m5 m6 m7 m8 m9 m21 m22 m23 m24 m25 m26 m30 m31 m32 m33 m34 m35 pl nd lk st bo ti te nr ml nn nl du nO nT wm wb ik kt kl hh pg dl er ra ck fa ft nw tu tc tr tf tt kc kr ke kd kf kg (z.toNat) (w.toNat) (by first | assumption | omega) (by first | assumption | omega) (by first | assumption | omega) (by first | assumption | omega)) (cwV 2 hts gX4_hops_X4_hopsNow rfl rfl rfl (by decide +kernel) ⟨Nat.le_of_ble_eq_true rfl, Nat.le_of_ble_eq_true rfl⟩) hK hP rfl rfl rfl hl.1 rfl (Nat.le_of_ble_eq_true rfl) dX4_hops_19 ⟨Nat.zero_le _, Nat.zero_le _⟩ rfl ?_
      refine lv_goto (tgt := 27) hx hb dX4_hops_22 (by decide) ?_
      refine kx_top (b := (if (0 ≤ z ∧ z ≤ nd - 1) ∧ (0 ≤ w ∧ w ≤ nd - 1) then mHs dl nd z.toNat w.toNat else -100000002)) (by (repeat' split) <;> first | rfl | omega) ?_
      exact hret _ _ dX4_hops_27
def rm_X4_spreadNow : Room := ({ frames := 4, cells := 0, slots := 0, locals := 91 } : Room)
set_option maxHeartbeats 4000000 in
set_option maxRecDepth 100000 in
theorem c_X4_spreadNow (l : Launch) (D : va_G) (cI cZ : ClassId) (h m1 m4 m5 m6 m7 m8 m9 m21 m22 m23 m24 m25 m26 m30 m31 m32 m33 m34 m35 : Nat) (pl nd lk st bo ti te nr ml nn nl du nO nT wm wb ik kt kl : Int) (hh : Int64) (pg dl er ra ck fa ft nw tu tc tr tf tt kc kr ke kd kf kg : Nat → Int) (z : Int) (hnd : 0 ≤ nd ∧ nd ≤ 6) (hdl : ∀ k : Nat, k < 36 → dl k = -100000001 ∨ (0 ≤ dl k ∧ dl k ≤ 3)) (hck : ∀ k : Nat, k < 24 → 0 ≤ ck k ∧ ck k ≤ 50000000) (hz : -2147483648 ≤ z ∧ z < 2147483648) : kRO l yX4_spreadNow wsX4_spreadNow rm_X4_spreadNow D cI cZ [.ref h, .int (iI z)] (mdW cI cZ h m1 m4 m5 m6 m7 m8 m9 m21 m22 m23 m24 m25 m26 m30 m31 m32 m33 m34 m35 pl nd lk st bo ti te nr ml nn nl du nO nT wm wb ik kt kl hh pg dl er ra ck fa ft nw tu tc tr tf tt kc kr ke kd kf kg) (some (.int (iI (mSp ck dl nd z)))) := by
  refine kx_ROi (cc := cX4_spreadNow) (maxL := 5) (by decide) rfl (Nat.le_of_ble_eq_true rfl) ?_
  intro pr en s mi args below meth co Q hx hb hml hown hts hK hP hret ls hl
  have hown : s.vm.findClass RX4 = some mi.cls := hown
  have iX4 : ∀ w ∈ wsX40, w ∈ wsX4_spreadNow := by decide +kernel
  have hl : lv_has ls 5 [(0, .ref h), (1, .int (iI z))] := hl
  refine kx_ldc (z := -100000001) hx hb hown (hts (.constant RX4 96 (-100000001)) (by decide +kernel)) dX4_spreadNow_0 (by decide) ?_
  refine lv_istore_n (lv' := [(2, .int (iI (-100000001))), (0, .ref h), (1, .int (iI z))]) hx hb dX4_spreadNow_2 rfl hl (by decide) rfl (fun ls hl => ?_)
  refine kx_const (z := 0) hx hb dX4_spreadNow_3 rfl ?_
  refine lv_istore_n (lv' := [(3, .int (iI 0)), (2, .int (iI (-100000001))), (0, .ref h), (1, .int (iI z))]) hx hb dX4_spreadNow_4 rfl hl (by decide) rfl (fun ls hl => ?_)
  have L5 : ∀ (fu : Nat) (v : Nat) (mo : Int), ((v : Int) ≤ nd) → (mo = dfm (mHp dl nd z) (mSk ck) (-100000001) v) → (-100000001 ≤ mo ∧ mo ≤ 50000000) → nd.toNat - v < fu → ∀ ls : Array Slot, lv_has ls 5 [(0, .ref h), (1, .int (iI z)), (2, .int (iI mo)), (3, .int (iI (v : Int)))] → W pr l en rm_X4_spreadNow s mi args below meth co s.heap [] 0 0 Q (F0 mi 5 ls []) := by
    intro fu
    induction fu with
    | zero =>
      intro v mo hv hmo hmr hfu
      exact absurd hfu (Nat.not_lt_zero _)
    | succ fu ih5 =>
      intro v mo hv hmo hmr hfu ls hl
      refine lv_iload_n hx hb dX4_spreadNow_5 rfl (lv_at hl 3 rfl) ?_
      refine lv_aload_n hx hb dX4_spreadNow_6 rfl (lv_at hl 0 rfl) ?_
      refine va_get (D := D) (ci := 4) (v := .int (iI nd)) (C := RX4) (T := TX4) (N := 39) hx hb hts iX4 hown hK.1 hP 0 rfl rfl 2 (by decide) (hts (.fieldLink RX4 112 "CloseClocksModel" "nodes" "I") (by decide +kernel)) (fun _ h9 => h9) rfl dX4_spreadNow_7 ?_
      refine kx_icmp_ge (tgt := 74) hx hb (by omega) (by omega) dX4_spreadNow_10 (by decide) (fun h10 => ?_) (fun h10 => ?_)
      · skip
        refine lv_iload_n hx hb dX4_spreadNow_74 rfl (lv_at hl 2 rfl) ?_
        refine kx_top (b := (mSp ck dl nd z)) (by have hve : v = nd.toNat := (by omega); rw [hmo, hve]; rfl) ?_
        exact hret _ _ dX4_spreadNow_75
      · skip
        refine kx_const (z := 0) hx hb dX4_spreadNow_13 rfl ?_
        refine lv_istore (lv' := [(4, .int (iI 0)), (0, .ref h), (1, .int (iI z)), (2, .int (iI mo)), (3, .int (iI (v : Int)))]) hx hb dX4_spreadNow_14 hl (by decide) rfl (fun ls hl => ?_)
        have L16 : ∀ (fu : Nat) (w : Nat) (mo2 : Int), (w ≤ v) → (mo2 = fmx (mHp dl nd z v) (mSk ck v) (dfm (mHp dl nd z) (mSk ck) (-100000001) v) w) → (-100000001 ≤ mo2 ∧ mo2 ≤ 50000000) → v - w < fu → ∀ ls : Array Slot, lv_has ls 5 [(0, .ref h), (1, .int (iI z)), (2, .int (iI mo2)), (3, .int (iI (v : Int))), (4, .int (iI (w : Int)))] → W pr l en rm_X4_spreadNow s mi args below meth co s.heap [] 0 0 Q (F0 mi 16 ls []) := by
          intro fu
          induction fu with
          | zero =>
            intro w mo2 hw hmo2 hmr2 hfu
            exact absurd hfu (Nat.not_lt_zero _)
          | succ fu ih16 =>
            intro w mo2 hw hmo2 hmr2 hfu ls hl
            refine lv_iload hx hb dX4_spreadNow_16 (lv_at hl 4 rfl) ?_
            refine lv_iload_n hx hb dX4_spreadNow_18 rfl (lv_at hl 3 rfl) ?_
            refine kx_icmp_ge (tgt := 68) hx hb (by omega) (by omega) dX4_spreadNow_19 (by decide) (fun h19 => ?_) (fun h19 => ?_)
            · skip
              refine kx_iinc (z := ((v + 1 : Nat) : Int)) (lv' := [(3, .int (iI ((v + 1 : Nat) : Int))), (0, .ref h), (1, .int (iI z)), (2, .int (iI mo2)), (4, .int (iI (w : Int)))]) hx hb dX4_spreadNow_68 hl (k0 := 3) rfl (by omega) (by decide) rfl (fun ls hl => ?_)
              refine lv_goto (tgt := 5) hx hb dX4_spreadNow_71 (by decide) ?_
              exact ih5 (v + 1) mo2 (by first | assumption | omega) (by have hwv : w = v := (by omega); rw [hmo2, hwv]; rfl) (by first | assumption | omega) (by omega) ls (lv_sub hl [1, 2, 3, 0] rfl)
            · skip
              have hsk := mSk_rng hck (show v < 6 by omega) (show w < 6 by omega)
              have hhr := mHs_rng dl nd v w
              refine lv_aload_n hx hb dX4_spreadNow_22 rfl (lv_at hl 0 rfl) ?_
              refine lv_iload_n hx hb dX4_spreadNow_23 rfl (lv_at hl 3 rfl) ?_
              refine lv_iload hx hb dX4_spreadNow_24 (lv_at hl 4 rfl) ?_
              refine kx_cV (As := [.int (iI (v : Int)), .int (iI (w : Int))]) (rest := []) (st1 := [.int (iI (mHs dl nd v w))]) (q0 := 0) (ci := 4) ⟨hx, hb, hml, hown, hts⟩ (c_X4_hopsNow l D cI cZ h m1 m4 m5 m6 m7 m8 m9 m21 m22 m23 m24 m25 m26 m30 m31 m32 m33 m34 m35 pl nd lk st bo ti te nr ml nn nl du nO nT wm wb ik kt kl hh pg dl er ra ck fa ft nw tu tc tr tf tt kc kr ke kd kf kg v w (by first | assumption | omega) (by first | assumption | omega) (by first | assumption | omega) (by first | assumption | omega)) (cwV 2 hts gX4_spreadNow_X4_hopsNow rfl rfl rfl (by decide +kernel) ⟨Nat.le_of_ble_eq_true rfl, Nat.le_of_ble_eq_true rfl⟩) hK hP rfl rfl rfl hl.1 rfl (Nat.le_of_ble_eq_true rfl) dX4_spreadNow_26 ⟨Nat.zero_le _, Nat.zero_le _⟩ rfl ?_
              refine lv_iload_n hx hb dX4_spreadNow_29 rfl (lv_at hl 1 rfl) ?_
              refine kx_icmp_ne (tgt := 62) hx hb (by omega) (by omega) dX4_spreadNow_30 (by decide) (fun h30 => ?_) (fun h30 => ?_)
              · skip
                refine kx_iinc (z := ((w + 1 : Nat) : Int)) (lv' := [(4, .int (iI ((w + 1 : Nat) : Int))), (0, .ref h), (1, .int (iI z)), (2, .int (iI mo2)), (3, .int (iI (v : Int)))]) hx hb dX4_spreadNow_62 hl (k0 := 4) rfl (by omega) (by decide) rfl (fun ls hl => ?_)
                refine lv_goto (tgt := 16) hx hb dX4_spreadNow_65 (by decide) ?_
                exact ih16 (w + 1) mo2 (by first | assumption | omega) (by first | exact (fmx_yes (P := mHp dl nd z v) (f := mSk ck v) (decide_eq_true h30) (by rw [← hmo2]; omega)).symm | exact hmo2.trans (fmx_no (fun q => by first | exact absurd (of_decide_eq_true q.1) h30 | (have q2 := q.2; rw [← hmo2] at q2; omega))).symm) (by first | assumption | omega) (by omega) ls (lv_sub hl [1, 2, 3, 4, 0] rfl)
              · skip
                refine lv_iload_n hx hb dX4_spreadNow_33 rfl (lv_at hl 2 rfl) ?_
                refine kx_ldc (z := -100000001) hx hb hown (hts (.constant RX4 96 (-100000001)) (by decide +kernel)) dX4_spreadNow_34 (by decide) ?_
                refine kx_icmp_eq (tgt := 50) hx hb (by omega) (by omega) dX4_spreadNow_36 (by decide) (fun h36 => ?_) (fun h36 => ?_)
                · skip
                  refine lv_aload_n hx hb dX4_spreadNow_50 rfl (lv_at hl 0 rfl) ?_
                  refine lv_iload_n hx hb dX4_spreadNow_51 rfl (lv_at hl 3 rfl) ?_
                  refine lv_iload hx hb dX4_spreadNow_52 (lv_at hl 4 rfl) ?_
                  refine kx_cV (As := [.int (iI (v : Int)), .int (iI (w : Int))]) (rest := []) (st1 := [.int (iI (mSk ck v w))]) (q0 := 0) (ci := 4) ⟨hx, hb, hml, hown, hts⟩ (c_X4_skewOf l D cI cZ h m1 m4 m5 m6 m7 m8 m9 m21 m22 m23 m24 m25 m26 m30 m31 m32 m33 m34 m35 pl nd lk st bo ti te nr ml nn nl du nO nT wm wb ik kt kl hh pg dl er ra ck fa ft nw tu tc tr tf tt kc kr ke kd kf kg v w (by first | assumption | omega) (by first | assumption | omega) (by first | assumption | omega)) (cwV 2 hts gX4_spreadNow_X4_skewOf rfl rfl rfl (by decide +kernel) ⟨Nat.le_of_ble_eq_true rfl, Nat.le_of_ble_eq_true rfl⟩) hK hP rfl rfl rfl hl.1 rfl (Nat.le_of_ble_eq_true rfl) dX4_spreadNow_54 ⟨Nat.zero_le _, Nat.zero_le _⟩ rfl ?_
                  refine lv_goto (tgt := 61) hx hb dX4_spreadNow_57 (by decide) ?_
                  refine lv_istore_n (lv' := [(2, .int (iI (mSk ck v w))), (0, .ref h), (1, .int (iI z)), (3, .int (iI (v : Int))), (4, .int (iI (w : Int)))]) hx hb dX4_spreadNow_61 rfl hl (by decide) rfl (fun ls hl => ?_)
                  refine kx_iinc (z := ((w + 1 : Nat) : Int)) (lv' := [(4, .int (iI ((w + 1 : Nat) : Int))), (2, .int (iI (mSk ck v w))), (0, .ref h), (1, .int (iI z)), (3, .int (iI (v : Int)))]) hx hb dX4_spreadNow_62 hl (k0 := 4) rfl (by omega) (by decide) rfl (fun ls hl => ?_)
                  refine lv_goto (tgt := 16) hx hb dX4_spreadNow_65 (by decide) ?_
                  exact ih16 (w + 1) (mSk ck v w) (by first | assumption | omega) (by first | exact (fmx_yes (P := mHp dl nd z v) (f := mSk ck v) (decide_eq_true h30) (by rw [← hmo2]; omega)).symm | exact hmo2.trans (fmx_no (fun q => by first | exact absurd (of_decide_eq_true q.1) h30 | (have q2 := q.2; rw [← hmo2] at q2; omega))).symm) (by first | assumption | omega) (by omega) ls (lv_sub hl [2, 3, 1, 4, 0] rfl)
                · skip
                  refine lv_aload_n hx hb dX4_spreadNow_39 rfl (lv_at hl 0 rfl) ?_
                  refine lv_iload_n hx hb dX4_spreadNow_40 rfl (lv_at hl 3 rfl) ?_
                  refine lv_iload hx hb dX4_spreadNow_41 (lv_at hl 4 rfl) ?_
                  refine kx_cV (As := [.int (iI (v : Int)), .int (iI (w : Int))]) (rest := []) (st1 := [.int (iI (mSk ck v w))]) (q0 := 0) (ci := 4) ⟨hx, hb, hml, hown, hts⟩ (c_X4_skewOf l D cI cZ h m1 m4 m5 m6 m7 m8 m9 m21 m22 m23 m24 m25 m26 m30 m31 m32 m33 m34 m35 pl nd lk st bo ti te nr ml nn nl du nO nT wm wb ik kt kl hh pg dl er ra ck fa ft nw tu tc tr tf tt kc kr ke kd kf kg v w (by first | assumption | omega) (by first | assumption | omega) (by first | assumption | omega)) (cwV 2 hts gX4_spreadNow_X4_skewOf rfl rfl rfl (by decide +kernel) ⟨Nat.le_of_ble_eq_true rfl, Nat.le_of_ble_eq_true rfl⟩) hK hP rfl rfl rfl hl.1 rfl (Nat.le_of_ble_eq_true rfl) dX4_spreadNow_43 ⟨Nat.zero_le _, Nat.zero_le _⟩ rfl ?_
                  refine lv_iload_n hx hb dX4_spreadNow_46 rfl (lv_at hl 2 rfl) ?_
                  refine kx_icmp_le (tgt := 60) hx hb (by omega) (by omega) dX4_spreadNow_47 (by decide) (fun h47 => ?_) (fun h47 => ?_)
                  · skip
                    refine lv_iload_n hx hb dX4_spreadNow_60 rfl (lv_at hl 2 rfl) ?_
                    refine lv_istore_n (lv' := [(2, .int (iI mo2)), (0, .ref h), (1, .int (iI z)), (3, .int (iI (v : Int))), (4, .int (iI (w : Int)))]) hx hb dX4_spreadNow_61 rfl hl (by decide) rfl (fun ls hl => ?_)
                    refine kx_iinc (z := ((w + 1 : Nat) : Int)) (lv' := [(4, .int (iI ((w + 1 : Nat) : Int))), (2, .int (iI mo2)), (0, .ref h), (1, .int (iI z)), (3, .int (iI (v : Int)))]) hx hb dX4_spreadNow_62 hl (k0 := 4) rfl (by omega) (by decide) rfl (fun ls hl => ?_)
                    refine lv_goto (tgt := 16) hx hb dX4_spreadNow_65 (by decide) ?_
                    exact ih16 (w + 1) mo2 (by first | assumption | omega) (by first | exact (fmx_yes (P := mHp dl nd z v) (f := mSk ck v) (decide_eq_true h30) (by rw [← hmo2]; omega)).symm | exact hmo2.trans (fmx_no (fun q => by first | exact absurd (of_decide_eq_true q.1) h30 | (have q2 := q.2; rw [← hmo2] at q2; omega))).symm) (by first | assumption | omega) (by omega) ls (lv_sub hl [2, 3, 1, 4, 0] rfl)
                  · skip
                    refine lv_aload_n hx hb dX4_spreadNow_50 rfl (lv_at hl 0 rfl) ?_
                    refine lv_iload_n hx hb dX4_spreadNow_51 rfl (lv_at hl 3 rfl) ?_
                    refine lv_iload hx hb dX4_spreadNow_52 (lv_at hl 4 rfl) ?_
                    refine kx_cV (As := [.int (iI (v : Int)), .int (iI (w : Int))]) (rest := []) (st1 := [.int (iI (mSk ck v w))]) (q0 := 0) (ci := 4) ⟨hx, hb, hml, hown, hts⟩ (c_X4_skewOf l D cI cZ h m1 m4 m5 m6 m7 m8 m9 m21 m22 m23 m24 m25 m26 m30 m31 m32 m33 m34 m35 pl nd lk st bo ti te nr ml nn nl du nO nT wm wb ik kt kl hh pg dl er ra ck fa ft nw tu tc tr tf tt kc kr ke kd kf kg v w (by first | assumption | omega) (by first | assumption | omega) (by first | assumption | omega)) (cwV 2 hts gX4_spreadNow_X4_skewOf rfl rfl rfl (by decide +kernel) ⟨Nat.le_of_ble_eq_true rfl, Nat.le_of_ble_eq_true rfl⟩) hK hP rfl rfl rfl hl.1 rfl (Nat.le_of_ble_eq_true rfl) dX4_spreadNow_54 ⟨Nat.zero_le _, Nat.zero_le _⟩ rfl ?_
                    refine lv_goto (tgt := 61) hx hb dX4_spreadNow_57 (by decide) ?_
                    refine lv_istore_n (lv' := [(2, .int (iI (mSk ck v w))), (0, .ref h), (1, .int (iI z)), (3, .int (iI (v : Int))), (4, .int (iI (w : Int)))]) hx hb dX4_spreadNow_61 rfl hl (by decide) rfl (fun ls hl => ?_)
                    refine kx_iinc (z := ((w + 1 : Nat) : Int)) (lv' := [(4, .int (iI ((w + 1 : Nat) : Int))), (2, .int (iI (mSk ck v w))), (0, .ref h), (1, .int (iI z)), (3, .int (iI (v : Int)))]) hx hb dX4_spreadNow_62 hl (k0 := 4) rfl (by omega) (by decide) rfl (fun ls hl => ?_)
                    refine lv_goto (tgt := 16) hx hb dX4_spreadNow_65 (by decide) ?_
                    exact ih16 (w + 1) (mSk ck v w) (by first | assumption | omega) (by first | exact (fmx_yes (P := mHp dl nd z v) (f := mSk ck v) (decide_eq_true h30) (by rw [← hmo2]; omega)).symm | exact hmo2.trans (fmx_no (fun q => by first | exact absurd (of_decide_eq_true q.1) h30 | (have q2 := q.2; rw [← hmo2] at q2; omega))).symm) (by first | assumption | omega) (by omega) ls (lv_sub hl [2, 3, 1, 4, 0] rfl)
        exact L16 (v - 0 + 1) 0 mo (by first | assumption | omega) (hmo) (by first | assumption | omega) (Nat.lt_succ_self _) ls (lv_sub hl [1, 2, 3, 4, 0] rfl)
  exact L5 (nd.toNat - 0 + 1) 0 (-100000001) (by first | assumption | omega) (rfl) (by first | assumption | omega) (Nat.lt_succ_self _) ls (lv_sub hl [2, 3, 1, 0] rfl)
def rm_X4_spread : Room := ({ frames := 5, cells := 0, slots := 0, locals := 115 } : Room)
set_option maxHeartbeats 4000000 in
set_option maxRecDepth 100000 in
theorem c_X4_spread (l : Launch) (D : va_G) (cI cZ : ClassId) (h m1 m4 m5 m6 m7 m8 m9 m21 m22 m23 m24 m25 m26 m30 m31 m32 m33 m34 m35 : Nat) (pl nd lk st bo ti te nr ml nn nl du nO nT wm wb ik kt kl : Int) (hh : Int64) (pg dl er ra ck fa ft nw tu tc tr tf tt kc kr ke kd kf kg : Nat → Int) (z : Int) (hnd : 0 ≤ nd ∧ nd ≤ 6) (hdl : ∀ k : Nat, k < 36 → dl k = -100000001 ∨ (0 ≤ dl k ∧ dl k ≤ 3)) (hck : ∀ k : Nat, k < 24 → 0 ≤ ck k ∧ ck k ≤ 50000000) (hz : -2147483648 ≤ z ∧ z < 2147483648) : kRO l yX4_spread wsX4_spread rm_X4_spread D cI cZ [.ref h, .int (iI z)] (mdW cI cZ h m1 m4 m5 m6 m7 m8 m9 m21 m22 m23 m24 m25 m26 m30 m31 m32 m33 m34 m35 pl nd lk st bo ti te nr ml nn nl du nO nT wm wb ik kt kl hh pg dl er ra ck fa ft nw tu tc tr tf tt kc kr ke kd kf kg) (some (.int (iI (if ¬ (1 ≤ z ∧ z ≤ 5) then -100000003 else if nd = 0 then -100000004 else mSp ck dl nd z)))) := by
  refine kx_ROi (cc := cX4_spread) (maxL := 2) (by decide) rfl (Nat.le_of_ble_eq_true rfl) ?_
  intro pr en s mi args below meth co Q hx hb hml hown hts hK hP hret ls hl
  have hown : s.vm.findClass RX4 = some mi.cls := hown
  have iX4 : ∀ w ∈ wsX40, w ∈ wsX4_spread := by decide +kernel
  have hl : lv_has ls 2 [(0, .ref h), (1, .int (iI z))] := hl
  refine lv_iload_n hx hb dX4_spread_0 rfl (lv_at hl 1 rfl) ?_
  refine kx_const (z := 1) hx hb dX4_spread_1 rfl ?_
  refine kx_const (z := 5) hx hb dX4_spread_2 rfl ?_
  refine kx_cS (As := [.int (iI z), .int (iI 1), .int (iI 5)]) (rest := []) (st1 := [.int (iI (if (1 ≤ z ∧ z ≤ 5) then 1 else 0))]) ⟨hx, hb, hml, hown, hts⟩ (c_X4_within l D cI cZ z 1 5 (by first | assumption | omega) (by first | assumption | omega) (by first | assumption | omega)) (va_cwS 3 hts gX4_spread_X4_within rfl rfl rfl (by decide +kernel) ⟨Nat.le_of_ble_eq_true rfl, Nat.le_of_ble_eq_true rfl⟩) hK (hP.sub (ws' := []) [] rfl) rfl hl.1 rfl (Nat.le_of_ble_eq_true rfl) dX4_spread_3 ⟨Nat.zero_le _, Nat.zero_le _⟩ rfl ?_
  refine kx_if_neB (tgt := 12) hx hb dX4_spread_6 (by decide) (fun h6 => ?_) (fun h6 => ?_)
  · skip
    refine lv_aload_n hx hb dX4_spread_12 rfl (lv_at hl 0 rfl) ?_
    refine va_get (D := D) (ci := 4) (v := .int (iI nd)) (C := RX4) (T := TX4) (N := 39) hx hb hts iX4 hown hK.1 hP 0 rfl rfl 2 (by decide) (hts (.fieldLink RX4 112 "CloseClocksModel" "nodes" "I") (by decide +kernel)) (fun _ h9 => h9) rfl dX4_spread_13 ?_
    refine kx_if_ne (tgt := 24) hx hb (by omega) dX4_spread_16 (by decide) (fun h16 => ?_) (fun h16 => ?_)
    · skip
      refine lv_aload_n hx hb dX4_spread_24 rfl (lv_at hl 0 rfl) ?_
      refine lv_iload_n hx hb dX4_spread_25 rfl (lv_at hl 1 rfl) ?_
      refine kx_cV (As := [.int (iI z)]) (rest := []) (st1 := [.int (iI (mSp ck dl nd z))]) (q0 := 0) (ci := 4) ⟨hx, hb, hml, hown, hts⟩ (c_X4_spreadNow l D cI cZ h m1 m4 m5 m6 m7 m8 m9 m21 m22 m23 m24 m25 m26 m30 m31 m32 m33 m34 m35 pl nd lk st bo ti te nr ml nn nl du nO nT wm wb ik kt kl hh pg dl er ra ck fa ft nw tu tc tr tf tt kc kr ke kd kf kg z (by first | assumption | omega) (by first | assumption | omega) (by first | assumption | omega) (by first | assumption | omega)) (cwV 1 hts gX4_spread_X4_spreadNow rfl rfl rfl (by decide +kernel) ⟨Nat.le_of_ble_eq_true rfl, Nat.le_of_ble_eq_true rfl⟩) hK hP rfl rfl rfl hl.1 rfl (Nat.le_of_ble_eq_true rfl) dX4_spread_26 ⟨Nat.zero_le _, Nat.zero_le _⟩ rfl ?_
      refine kx_top (b := (if ¬ (1 ≤ z ∧ z ≤ 5) then -100000003 else if nd = 0 then -100000004 else mSp ck dl nd z)) (by (repeat' split) <;> first | rfl | omega | contradiction) ?_
      exact hret _ _ dX4_spread_29
    · skip
      refine kx_ldc (z := -100000004) hx hb hown (hts (.constant RX4 111 (-100000004)) (by decide +kernel)) dX4_spread_19 (by decide) ?_
      refine lv_goto (tgt := 29) hx hb dX4_spread_21 (by decide) ?_
      refine kx_top (b := (if ¬ (1 ≤ z ∧ z ≤ 5) then -100000003 else if nd = 0 then -100000004 else mSp ck dl nd z)) (by (repeat' split) <;> first | rfl | omega | contradiction) ?_
      exact hret _ _ dX4_spread_29
  · skip
    refine kx_ldc (z := -100000003) hx hb hown (hts (.constant RX4 79 (-100000003)) (by decide +kernel)) dX4_spread_9 (by decide) ?_
    refine kx_top (b := (if ¬ (1 ≤ z ∧ z ≤ 5) then -100000003 else if nd = 0 then -100000004 else mSp ck dl nd z)) (by (repeat' split) <;> first | rfl | omega | contradiction) ?_
    exact hret _ _ dX4_spread_11
