section LAWC_loop
variable {pr : Program} {l : Launch} {en : Env} {s : State} {mi : MethodId} {args : Array Value} {below : List Frame} {meth : Method} {co : Code} {Q : State → Prop} {D : va_G} {cI cZ : ClassId} {A : Nat → Prop} {H0 : Heap} {b L i : Nat} {xs : Nat → Int32} {x p p1 n n1 n2 n3 a a1 a2 a3 a4 a5 a6 k k1 k2 k3 k4 k5 k6 t t1 t2 t3 t4 t5 t6 h m1 m4 m5 m6 m7 m8 m9 m21 m22 m23 m24 m25 m26 m30 m31 m32 m33 m34 m35 : Nat}

set_option maxHeartbeats 4000000 in
set_option maxRecDepth 100000 in
theorem law_loop (C0 : lwC pr s mi args co D cI cZ A H0 b L xs) (hend : ∀ (H : Heap) (locs : List Loc) (ls : Array Slot), va_S A H0 H locs → W pr l en room_1 s mi args below meth co H locs 48 943 Q (F0 mi 656 ls [.int (iI 1)])) : ∀ (fu i : Nat), i ≤ L → L + 1 - i < fu → ∀ (H : Heap) (locs : List Loc) (ls : Array Slot) (le : Int) (te : Nat → Int) (no li : Int) (dg nb wy pa ra fa ft dy er : Nat → Int) (ti gr ah be : Int) (pak rak fak ftk dyk erk : Nat → Int) (tik grk ahk bek : Int) (pat rat fat ftt dyt ert : Nat → Int) (tit grt aht bet ik sp bo nr te9 pl nd lk st bq tj tv nv ml nn nl du nO nT wm wb ij kt kl : Int) (hh : Int64) (pg dl es rb ck fb fu nw tu tc tr tf tt kc kr ke kd kf kg : Nat → Int), RR le te no li dg nb wy pa ra fa ft dy er ti gr pak rak fak ftk dyk erk tik grk ik sp bo nr te9 pl nd lk st bq tj tv nv ml ij kt kl pg dl es rb ck fb fu kc kr ke kd kf kg → va_P D vwCl (xW cI cZ x p p1 n n1 n2 n3 a a1 a2 a3 a4 a5 a6 k k1 k2 k3 k4 k5 k6 t t1 t2 t3 t4 t5 t6 le te no li dg nb wy pa ra fa ft dy er ti gr ah be pak rak fak ftk dyk erk tik grk ahk bek pat rat fat ftt dyt ert tit grt aht bet ik sp bo nr te9 ++ mdW cI cZ h m1 m4 m5 m6 m7 m8 m9 m21 m22 m23 m24 m25 m26 m30 m31 m32 m33 m34 m35 pl nd lk st bq tj tv nv ml nn nl du nO nT wm wb ij kt kl hh pg dl es rb ck fb fu nw tu tc tr tf tt kc kr ke kd kf kg) H → va_D A (xW cI cZ x p p1 n n1 n2 n3 a a1 a2 a3 a4 a5 a6 k k1 k2 k3 k4 k5 k6 t t1 t2 t3 t4 t5 t6 le te no li dg nb wy pa ra fa ft dy er ti gr ah be pak rak fak ftk dyk erk tik grk ahk bek pat rat fat ftt dyt ert tit grt aht bet ik sp bo nr te9 ++ mdW cI cZ h m1 m4 m5 m6 m7 m8 m9 m21 m22 m23 m24 m25 m26 m30 m31 m32 m33 m34 m35 pl nd lk st bq tj tv nv ml nn nl du nO nT wm wb ij kt kl hh pg dl es rb ck fb fu nw tu tc tr tf tt kc kr ke kd kf kg) → va_S A H0 H locs → lv_has ls 4 [(0, .ref b), (1, .ref x), (2, .ref h), (3, .int (iI (i : Int)))] → W pr l en room_1 s mi args below meth co H locs 48 943 Q (F0 mi 18 ls []) := by
  intro fu
  induction fu with
  | zero => intro i _ hfu; exact absurd hfu (Nat.not_lt_zero _)
  | succ fu ih =>
    intro i hiL hfu H locs ls le te no li dg nb wy pa ra fa ft dy er ti gr ah be pak rak fak ftk dyk erk tik grk ahk bek pat rat fat ftt dyt ert tit grt aht bet ik sp bo nr te9 pl nd lk st bq tj tv nv ml nn nl du nO nT wm wb ij kt kl hh pg dl es rb ck fb fu nw tu tc tr tf tt kc kr ke kd kf kg hR hP hD hS hl
    have C1 := C0
    obtain ⟨hx, hb, hml, hown, hts, hK, hA, hX, hbl, hbA, hL⟩ := C0
    refine lv_iload_n hx hb dL_law_18 rfl (lv_at hl 3 rfl) ?_
    refine lv_aload_n hx hb dL_law_19 rfl (lv_at hl 0 rfl) ?_
    refine va_slen hx hb hX hbl hbA hS dL_law_20 ?_
    refine kx_topx (b := iI (L : Int)) (iI_nat L) ?_
    refine kx_const (z := 4) hx hb dL_law_21 rfl ?_
    refine kx_isub hx hb dL_law_22 ?_
    refine kx_icmp_gt (tgt := 655) hx hb (by omega) (by omega) dL_law_23 (by decide) (fun h23 => ?_) (fun h23 => ?_)
    · refine kx_const (z := 1) hx hb dL_law_655 rfl ?_
      exact hend H locs ls hS
    · have hnx : ∀ (H : Heap) (locs : List Loc) (le : Int) (te : Nat → Int) (no li : Int) (dg nb wy pa ra fa ft dy er : Nat → Int) (ti gr ah be : Int) (pak rak fak ftk dyk erk : Nat → Int) (tik grk ahk bek : Int) (pat rat fat ftt dyt ert : Nat → Int) (tit grt aht bet ik sp bo nr te9 pl nd lk st bq tj tv nv ml nn nl du nO nT wm wb ij kt kl : Int) (hh : Int64) (pg dl es rb ck fb fu nw tu tc tr tf tt kc kr ke kd kf kg : Nat → Int), RR le te no li dg nb wy pa ra fa ft dy er ti gr pak rak fak ftk dyk erk tik grk ik sp bo nr te9 pl nd lk st bq tj tv nv ml ij kt kl pg dl es rb ck fb fu kc kr ke kd kf kg → va_P D vwCl (xW cI cZ x p p1 n n1 n2 n3 a a1 a2 a3 a4 a5 a6 k k1 k2 k3 k4 k5 k6 t t1 t2 t3 t4 t5 t6 le te no li dg nb wy pa ra fa ft dy er ti gr ah be pak rak fak ftk dyk erk tik grk ahk bek pat rat fat ftt dyt ert tit grt aht bet ik sp bo nr te9 ++ mdW cI cZ h m1 m4 m5 m6 m7 m8 m9 m21 m22 m23 m24 m25 m26 m30 m31 m32 m33 m34 m35 pl nd lk st bq tj tv nv ml nn nl du nO nT wm wb ij kt kl hh pg dl es rb ck fb fu nw tu tc tr tf tt kc kr ke kd kf kg) H → va_D A (xW cI cZ x p p1 n n1 n2 n3 a a1 a2 a3 a4 a5 a6 k k1 k2 k3 k4 k5 k6 t t1 t2 t3 t4 t5 t6 le te no li dg nb wy pa ra fa ft dy er ti gr ah be pak rak fak ftk dyk erk tik grk ahk bek pat rat fat ftt dyt ert tit grt aht bet ik sp bo nr te9 ++ mdW cI cZ h m1 m4 m5 m6 m7 m8 m9 m21 m22 m23 m24 m25 m26 m30 m31 m32 m33 m34 m35 pl nd lk st bq tj tv nv ml nn nl du nO nT wm wb ij kt kl hh pg dl es rb ck fb fu nw tu tc tr tf tt kc kr ke kd kf kg) → va_S A H0 H locs → W pr l en room_1 s mi args below meth co H locs 48 943 Q (F0 mi 649 ls []) := by
        intro H locs le te no li dg nb wy pa ra fa ft dy er ti gr ah be pak rak fak ftk dyk erk tik grk ahk bek pat rat fat ftt dyt ert tit grt aht bet ik sp bo nr te9 pl nd lk st bq tj tv nv ml nn nl du nO nT wm wb ij kt kl hh pg dl es rb ck fb fu nw tu tc tr tf tt kc kr ke kd kf kg hR hP hD hS
        refine kx_iinc (z := ((i + 4 : Nat) : Int)) (lv' := [(3, .int (iI ((i + 4 : Nat) : Int))), (0, .ref b), (1, .ref x), (2, .ref h)]) hx hb dL_law_649 hl (k0 := 3) rfl (by omega) (by decide) rfl (fun ls hl => ?_)
        refine lv_goto (tgt := 18) hx hb dL_law_652 (by decide) ?_
        exact ih (i + 4) (by omega) (by omega) H locs ls le te no li dg nb wy pa ra fa ft dy er ti gr ah be pak rak fak ftk dyk erk tik grk ahk bek pat rat fat ftt dyt ert tit grt aht bet ik sp bo nr te9 pl nd lk st bq tj tv nv ml nn nl du nO nT wm wb ij kt kl hh pg dl es rb ck fb fu nw tu tc tr tf tt kc kr ke kd kf kg hR hP hD hS (lv_sub hl [1, 2, 3, 0] rfl)
      refine lv_aload_n hx hb dL_law_26 rfl (lv_at hl 0 rfl) ?_
      refine lv_iload_n hx hb dL_law_27 rfl (lv_at hl 3 rfl) ?_
      refine kx_sld (k := i) hx hb hX hbl hbA hS rfl (by omega) (by omega) dL_law_28 ?_
      refine kx_bipush (z := 31) hx hb dL_law_29 (by decide) ?_
      obtain ⟨j, hj, ej⟩ := pk_andE (iI (xs i).toInt) (m := iI 31) 5 (by decide)
      refine lv_iand hx hb dL_law_31 ?_
      refine kx_topx (b := iI (j : Int)) (by rw [ej]; exact iI_nat j) ?_
      have hj : j < 32 := hj
      rcases (show (19 < j) ∨ j = 0 ∨ j = 1 ∨ j = 2 ∨ j = 3 ∨ j = 4 ∨ j = 5 ∨ j = 6 ∨ j = 7 ∨ j = 8 ∨ j = 9 ∨ j = 10 ∨ j = 11 ∨ j = 12 ∨ j = 13 ∨ j = 14 ∨ j = 15 ∨ j = 16 ∨ j = 17 ∨ j = 18 ∨ j = 19 by omega) with hsw | hsw | hsw | hsw | hsw | hsw | hsw | hsw | hsw | hsw | hsw | hsw | hsw | hsw | hsw | hsw | hsw | hsw | hsw | hsw | hsw
      · refine lv_tableOut (tgt := 649) hx hb dL_law_32 (by rw [iI_toInt (by omega)]; omega) (by decide) ?_
        exact hnx H locs le te no li dg nb wy pa ra fa ft dy er ti gr ah be pak rak fak ftk dyk erk tik grk ahk bek pat rat fat ftt dyt ert tit grt aht bet ik sp bo nr te9 pl nd lk st bq tj tv nv ml nn nl du nO nT wm wb ij kt kl hh pg dl es rb ck fb fu nw tu tc tr tf tt kc kr ke kd kf kg hR hP hD hS
      · refine lv_tableIn (tgt := 128) hx hb dL_law_32 (by rw [iI_toInt (by omega)]; omega) (by rw [iI_toInt (by omega)]; omega) (by rw [iI_toInt (by omega), hsw]; rfl) (by decide) ?_
        exact law_letter C1 hR hP hD hS (by omega) hl hnx
      · refine lv_tableIn (tgt := 151) hx hb dL_law_32 (by rw [iI_toInt (by omega)]; omega) (by rw [iI_toInt (by omega)]; omega) (by rw [iI_toInt (by omega), hsw]; rfl) (by decide) ?_
        exact law_blank C1 hR hP hD hS (by omega) hl hnx
      · refine lv_tableIn (tgt := 164) hx hb dL_law_32 (by rw [iI_toInt (by omega)]; omega) (by rw [iI_toInt (by omega)]; omega) (by rw [iI_toInt (by omega), hsw]; rfl) (by decide) ?_
        exact law_fault C1 hR hP hD hS (by omega) hl hnx
      · refine lv_tableIn (tgt := 177) hx hb dL_law_32 (by rw [iI_toInt (by omega)]; omega) (by rw [iI_toInt (by omega)]; omega) (by rw [iI_toInt (by omega), hsw]; rfl) (by decide) ?_
        exact law_net C1 hR hP hD hS (by omega) hl hnx
      · refine lv_tableIn (tgt := 190) hx hb dL_law_32 (by rw [iI_toInt (by omega)]; omega) (by rw [iI_toInt (by omega)]; omega) (by rw [iI_toInt (by omega), hsw]; rfl) (by decide) ?_
        exact law_set C1 hR hP hD hS (by omega) hl hnx
      · refine lv_tableIn (tgt := 223) hx hb dL_law_32 (by rw [iI_toInt (by omega)]; omega) (by rw [iI_toInt (by omega)]; omega) (by rw [iI_toInt (by omega), hsw]; rfl) (by decide) ?_
        exact law_rate C1 hR hP hD hS (by omega) hl hnx
      · refine lv_tableIn (tgt := 256) hx hb dL_law_32 (by rw [iI_toInt (by omega)]; omega) (by rw [iI_toInt (by omega)]; omega) (by rw [iI_toInt (by omega), hsw]; rfl) (by decide) ?_
        exact law_put C1 hR hP hD hS (by omega) hl hnx
      · refine lv_tableIn (tgt := 289) hx hb dL_law_32 (by rw [iI_toInt (by omega)]; omega) (by rw [iI_toInt (by omega)]; omega) (by rw [iI_toInt (by omega), hsw]; rfl) (by decide) ?_
        exact law_wrong C1 hR hP hD hS (by omega) hl hnx
      · refine lv_tableIn (tgt := 332) hx hb dL_law_32 (by rw [iI_toInt (by omega)]; omega) (by rw [iI_toInt (by omega)]; omega) (by rw [iI_toInt (by omega), hsw]; rfl) (by decide) ?_
        exact law_delay C1 hR hP hD hS (by omega) hl hnx
      · refine lv_tableIn (tgt := 375) hx hb dL_law_32 (by rw [iI_toInt (by omega)]; omega) (by rw [iI_toInt (by omega)]; omega) (by rw [iI_toInt (by omega), hsw]; rfl) (by decide) ?_
        exact law_go C1 hR hP hD hS (by omega) hl hnx
      · refine lv_tableIn (tgt := 398) hx hb dL_law_32 (by rw [iI_toInt (by omega)]; omega) (by rw [iI_toInt (by omega)]; omega) (by rw [iI_toInt (by omega), hsw]; rfl) (by decide) ?_
        exact law_node C1 hR hP hD hS (by omega) hl hnx
      · refine lv_tableIn (tgt := 431) hx hb dL_law_32 (by rw [iI_toInt (by omega)]; omega) (by rw [iI_toInt (by omega)]; omega) (by rw [iI_toInt (by omega), hsw]; rfl) (by decide) ?_
        exact law_link C1 hR hP hD hS (by omega) hl hnx
      · refine lv_tableIn (tgt := 474) hx hb dL_law_32 (by rw [iI_toInt (by omega)]; omega) (by rw [iI_toInt (by omega)]; omega) (by rw [iI_toInt (by omega), hsw]; rfl) (by decide) ?_
        exact law_hops C1 hR hP hD hS (by omega) hl hnx
      · refine lv_tableIn (tgt := 507) hx hb dL_law_32 (by rw [iI_toInt (by omega)]; omega) (by rw [iI_toInt (by omega)]; omega) (by rw [iI_toInt (by omega), hsw]; rfl) (by decide) ?_
        exact law_skew C1 hR hP hD hS (by omega) hl hnx
      · refine lv_tableIn (tgt := 530) hx hb dL_law_32 (by rw [iI_toInt (by omega)]; omega) (by rw [iI_toInt (by omega)]; omega) (by rw [iI_toInt (by omega), hsw]; rfl) (by decide) ?_
        exact law_spread C1 hR hP hD hS (by omega) hl hnx
      · refine lv_tableIn (tgt := 553) hx hb dL_law_32 (by rw [iI_toInt (by omega)]; omega) (by rw [iI_toInt (by omega)]; omega) (by rw [iI_toInt (by omega), hsw]; rfl) (by decide) ?_
        exact law_worst C1 hR hP hD hS (by omega) hl hnx
      · refine lv_tableIn (tgt := 586) hx hb dL_law_32 (by rw [iI_toInt (by omega)]; omega) (by rw [iI_toInt (by omega)]; omega) (by rw [iI_toInt (by omega), hsw]; rfl) (by decide) ?_
        exact law_image C1 hR hP hD hS (by omega) hl hnx
      · refine lv_tableIn (tgt := 599) hx hb dL_law_32 (by rw [iI_toInt (by omega)]; omega) (by rw [iI_toInt (by omega)]; omega) (by rw [iI_toInt (by omega), hsw]; rfl) (by decide) ?_
        exact law_restore C1 hR hP hD hS (by omega) hl hnx
      · refine lv_tableIn (tgt := 612) hx hb dL_law_32 (by rw [iI_toInt (by omega)]; omega) (by rw [iI_toInt (by omega)]; omega) (by rw [iI_toInt (by omega), hsw]; rfl) (by decide) ?_
        exact law_count C1 hR hP hD hS (by omega) hl hnx
      · refine lv_tableIn (tgt := 635) hx hb dL_law_32 (by rw [iI_toInt (by omega)]; omega) (by rw [iI_toInt (by omega)]; omega) (by rw [iI_toInt (by omega), hsw]; rfl) (by decide) ?_
        exact law_digest C1 hR hP hD hS (by omega) hl hnx
end LAWC_loop
