def rm_X3_go : Room := ({ frames := 5, cells := 0, slots := 0, locals := 118 } : Room)
set_option maxHeartbeats 4000000 in
set_option maxRecDepth 100000 in
theorem c_X3_go (l : Launch) (D : va_G) (cI cZ : ClassId) (x p p1 n n1 n2 n3 a a1 a2 a3 a4 a5 a6 k k1 k2 k3 k4 k5 k6 t t1 t2 t3 t4 t5 t6 : Nat) (le : Int) (te : Nat → Int) (no li : Int) (dg nb wy pa ra fa ft dy er : Nat → Int) (ti gr ah be : Int) (pak rak fak ftk dyk erk : Nat → Int) (tik grk ahk bek : Int) (pat rat fat ftt dyt ert : Nat → Int) (tit grt aht bet ik sp bo nr te9 : Int) (z : Int) (hpa4 : ∀ k : Nat, k < 24 → 0 ≤ pa k ∧ pa k ≤ 40000000) (hdy : ∀ k : Nat, k < 36 → 0 ≤ dy k ∧ dy k ≤ 3) (her : ∀ k : Nat, k < 36 → -9 ≤ er k ∧ er k ≤ 9) (hfa : ∀ k : Nat, k < 6 → fa k = 0 ∨ fa k = 1) (hra : ∀ k : Nat, k < 6 → 0 ≤ ra k ∧ ra k ≤ 110) (hsp : 1 ≤ sp ∧ sp ≤ 500) (hbo : 1 ≤ bo ∧ bo ≤ 60) (hno : 0 ≤ no ∧ no ≤ 6) (hwy : ∀ k : Nat, k < 36 → 0 ≤ wy k ∧ wy k ≤ 1000) (hdg : ∀ v : Nat, v < 6 → 0 ≤ dg v ∧ dg v ≤ 5) (hnb : ∀ v k : Nat, v < 6 → (k : Int) < dg v → 0 ≤ nb (v * 6 + k) ∧ nb (v * 6 + k) < 6) (hti : 0 ≤ ti ∧ ti ≤ 9000) (hgr9 : 0 ≤ gr ∧ gr ≤ 50000000) (hz : -2147483648 ≤ z ∧ z < 2147483648) : kWR l yX3_go wsX3_go rm_X3_go D cI cZ [.ref x, .int (iI z)] (xW cI cZ x p p1 n n1 n2 n3 a a1 a2 a3 a4 a5 a6 k k1 k2 k3 k4 k5 k6 t t1 t2 t3 t4 t5 t6 le te no li dg nb wy pa ra fa ft dy er ti gr ah be pak rak fak ftk dyk erk tik grk ahk bek pat rat fat ftt dyt ert tit grt aht bet ik sp bo nr te9) (fun u : Int × Int × Int × (Nat → Int) × (Nat → Int) × (Nat → Int) × Int × Int => some (.int (iI (if ¬ (1 ≤ z ∧ z ≤ 100) then -100000003 else if ¬ 0 < no ∨ 9000 < ti + z then -100000004 else xSp (xIS dy er dg nb ra no sp bo pa fa z.toNat).1 wy no 1)))) (fun u : Int × Int × Int × (Nat → Int) × (Nat → Int) × (Nat → Int) × Int × Int => u.1 = (if ((1 ≤ z ∧ z ≤ 100) ∧ 0 < no ∧ ti + z ≤ 9000) then ti + z else ti) ∧ u.2.1 = (if ((1 ≤ z ∧ z ≤ 100) ∧ 0 < no ∧ ti + z ≤ 9000) then te9 + z else te9) ∧ u.2.2.1 = (if ((1 ≤ z ∧ z ≤ 100) ∧ 0 < no ∧ ti + z ≤ 9000) then xIM dy er dg nb ra wy no sp bo pa fa gr z.toNat else gr) ∧ u.2.2.2.1 = (if ((1 ≤ z ∧ z ≤ 100) ∧ 0 < no ∧ ti + z ≤ 9000) then (xIS dy er dg nb ra no sp bo pa fa z.toNat).1 else pa) ∧ u.2.2.2.2.1 = (if ((1 ≤ z ∧ z ≤ 100) ∧ 0 < no ∧ ti + z ≤ 9000) then (xIS dy er dg nb ra no sp bo pa fa z.toNat).2 else fa) ∧ u.2.2.2.2.2.1 = (if ((1 ≤ z ∧ z ≤ 100) ∧ 0 < no ∧ ti + z ≤ 9000) then xIT dy er dg nb ra no sp bo pa fa ft z.toNat else ft)) (fun u : Int × Int × Int × (Nat → Int) × (Nat → Int) × (Nat → Int) × Int × Int => xW cI cZ x p p1 n n1 n2 n3 a a1 a2 a3 a4 a5 a6 k k1 k2 k3 k4 k5 k6 t t1 t2 t3 t4 t5 t6 le te no li dg nb wy u.2.2.2.1 ra u.2.2.2.2.1 u.2.2.2.2.2.1 dy er u.1 u.2.2.1 u.2.2.2.2.2.2.1 u.2.2.2.2.2.2.2 pak rak fak ftk dyk erk tik grk ahk bek pat rat fat ftt dyt ert tit grt aht bet ik sp bo nr u.2.1) 0 0 := by
  refine kx_WRi (cc := cX3_go) (maxL := 3) (by decide) rfl (Nat.le_of_ble_eq_true rfl) ?_
  intro pr en s mi args below meth co Q A hx hb hml hown hts hK hin hA hP hD hS hret ls hl
  have hown : s.vm.findClass RX3 = some mi.cls := hown
  have iX3 : ∀ w ∈ wsX30, w ∈ wsX3_go := by decide +kernel
  have iX0 : ∀ w ∈ wsX00, w ∈ wsX3_go := by decide +kernel
  have hl : lv_has ls 3 [(0, .ref x), (1, .int (iI z))] := hl
  generalize hH0 : s.heap = H0 at hA hP hS hret ⊢
  obtain ⟨H, hH⟩ : ∃ H : Heap, H = H0 := ⟨_, rfl⟩
  obtain ⟨locs, hlocs⟩ : ∃ locs : List Loc, locs = [] := ⟨_, rfl⟩
  have hS : va_S A H0 H locs := by rw [hH, hlocs]; exact hS
  have hP : va_P D vwCl (xW cI cZ x p p1 n n1 n2 n3 a a1 a2 a3 a4 a5 a6 k k1 k2 k3 k4 k5 k6 t t1 t2 t3 t4 t5 t6 le te no li dg nb wy pa ra fa ft dy er ti gr ah be pak rak fak ftk dyk erk tik grk ahk bek pat rat fat ftt dyt ert tit grt aht bet ik sp bo nr te9) H := by rw [hH]; exact hP
  suffices hgo : W pr l en rm_X3_go s mi args below meth co H locs 0 0 Q (F0 mi 0 ls []) by rw [hH, hlocs] at hgo; exact hgo
  clear hH hlocs
  have hpa : ∀ k : Nat, k < 24 → 0 ≤ pa k ∧ pa k ≤ 50000000 := fun k hk => by have := hpa4 k hk; omega
  refine lv_iload_n hx hb dX3_go_0 rfl (lv_at hl 1 rfl) ?_
  refine kx_const (z := 1) hx hb dX3_go_1 rfl ?_
  refine kx_icmp_lt (tgt := 11) hx hb (by omega) (by omega) dX3_go_2 (by decide) (fun h2 => ?_) (fun h2 => ?_)
  · skip
    refine kx_ldc (z := -100000003) hx hb hown (hts (.constant RX3 55 (-100000003)) (by decide +kernel)) dX3_go_11 (by decide) ?_
    refine kx_top (b := (if ¬ (1 ≤ z ∧ z ≤ 100) then -100000003 else if ¬ 0 < no ∨ 9000 < ti + z then -100000004 else xSp (xIS dy er dg nb ra no sp bo pa fa z.toNat).1 wy no 1)) (by (repeat' split) <;> first | rfl | omega | contradiction | (rw [hie]; done)) ?_
    exact hret (ti, te9, gr, pa, fa, ft, ah, be) H locs _ _ (⟨(by (try dsimp only); (repeat' split) <;> first | rfl | omega | contradiction | (rw [hq1, hie]; done) | (rw [hie]; done)), (by (try dsimp only); (repeat' split) <;> first | rfl | omega | contradiction | (rw [hq1, hie]; done) | (rw [hie]; done)), (by (try dsimp only); (repeat' split) <;> first | rfl | omega | contradiction | (rw [hq1, hie]; done) | (rw [hie]; done)), (by (try dsimp only); (repeat' split) <;> first | rfl | omega | contradiction | (rw [hq1, hie]; done) | (rw [hie]; done)), (by (try dsimp only); (repeat' split) <;> first | rfl | omega | contradiction | (rw [hq1, hie]; done) | (rw [hie]; done)), (by (try dsimp only); (repeat' split) <;> first | rfl | omega | contradiction | (rw [hq1, hie]; done) | (rw [hie]; done))⟩) hP hD hS dX3_go_13
  · skip
    refine lv_iload_n hx hb dX3_go_5 rfl (lv_at hl 1 rfl) ?_
    refine kx_bipush (z := 100) hx hb dX3_go_6 (by decide) ?_
    refine kx_icmp_le (tgt := 14) hx hb (by omega) (by omega) dX3_go_8 (by decide) (fun h8 => ?_) (fun h8 => ?_)
    · skip
      refine lv_aload_n hx hb dX3_go_14 rfl (lv_at hl 0 rfl) ?_
      refine va_get (D := D) (ci := 3) (v := .ref n) (C := RX3) (T := TX3) (N := 10) hx hb hts iX3 hown hK.1 hP 0 rfl rfl 1 (by decide) (hts (.fieldLink RX3 19 "CloseClocks" "shape" "LCloseClocks$Net;") (by decide +kernel)) (fun _ h9 => h9) rfl dX3_go_15 ?_
      refine kx_cV (As := []) (rest := []) (st1 := [.int (iI (if (0 < no) then 1 else 0))]) (q0 := 0) (ci := 1) ⟨hx, hb, hml, hown, hts⟩ (c_X1_isRead l D cI cZ n n1 n2 n3 no li dg nb wy (by first | assumption | omega)) (cwV 0 hts gX3_go_X1_isRead rfl rfl rfl (by decide +kernel) ⟨Nat.le_of_ble_eq_true rfl, Nat.le_of_ble_eq_true rfl⟩) hK (hP.sub (ws' := ntW cI cZ n n1 n2 n3 no li dg nb wy) [3, 4, 5, 6] rfl) rfl rfl rfl hl.1 rfl (Nat.le_of_ble_eq_true rfl) dX3_go_18 ⟨Nat.zero_le _, Nat.zero_le _⟩ rfl ?_
      refine kx_if_eqB (tgt := 39) hx hb dX3_go_21 (by decide) (fun h21 => ?_) (fun h21 => ?_)
      · skip
        refine kx_ldc (z := -100000004) hx hb hown (hts (.constant RX3 75 (-100000004)) (by decide +kernel)) dX3_go_39 (by decide) ?_
        refine kx_top (b := (if ¬ (1 ≤ z ∧ z ≤ 100) then -100000003 else if ¬ 0 < no ∨ 9000 < ti + z then -100000004 else xSp (xIS dy er dg nb ra no sp bo pa fa z.toNat).1 wy no 1)) (by (repeat' split) <;> first | rfl | omega | contradiction | (rw [hie]; done)) ?_
        exact hret (ti, te9, gr, pa, fa, ft, ah, be) H locs _ _ (⟨(by (try dsimp only); (repeat' split) <;> first | rfl | omega | contradiction | (rw [hq1, hie]; done) | (rw [hie]; done)), (by (try dsimp only); (repeat' split) <;> first | rfl | omega | contradiction | (rw [hq1, hie]; done) | (rw [hie]; done)), (by (try dsimp only); (repeat' split) <;> first | rfl | omega | contradiction | (rw [hq1, hie]; done) | (rw [hie]; done)), (by (try dsimp only); (repeat' split) <;> first | rfl | omega | contradiction | (rw [hq1, hie]; done) | (rw [hie]; done)), (by (try dsimp only); (repeat' split) <;> first | rfl | omega | contradiction | (rw [hq1, hie]; done) | (rw [hie]; done)), (by (try dsimp only); (repeat' split) <;> first | rfl | omega | contradiction | (rw [hq1, hie]; done) | (rw [hie]; done))⟩) hP hD hS dX3_go_41
      · skip
        refine lv_aload_n hx hb dX3_go_24 rfl (lv_at hl 0 rfl) ?_
        refine va_get (D := D) (ci := 3) (v := .ref a) (C := RX3) (T := TX3) (N := 10) hx hb hts iX3 hown hK.1 hP 0 rfl rfl 2 (by decide) (hts (.fieldLink RX3 28 "CloseClocks" "now" "LCloseClocks$Clocks;") (by decide +kernel)) (fun _ h9 => h9) rfl dX3_go_25 ?_
        refine va_getN (D := D) (ci := 0) (v := .int (iI ti)) (C := RX0) (T := TX0) (N := 11) hx hb hts iX0 hown hK.1 hP 7 rfl rfl 7 (by decide) (va_Nw.use rfl (hK.2.1 (RX3, 124, RX0, "ticks", "I") (List.mem_of_getElem? (i := 12) rfl))) (fun _ h9 => h9) rfl dX3_go_28 ?_
        refine lv_iload_n hx hb dX3_go_31 rfl (lv_at hl 1 rfl) ?_
        refine kx_iadd hx hb dX3_go_32 ?_
        refine kx_sipush (z := 9000) hx hb dX3_go_33 (by decide) ?_
        refine kx_icmp_le (tgt := 42) hx hb (by omega) (by omega) dX3_go_36 (by decide) (fun h36 => ?_) (fun h36 => ?_)
        · skip
          refine kx_const (z := 0) hx hb dX3_go_42 rfl ?_
          refine lv_istore_n (lv' := [(2, .int (iI 0)), (0, .ref x), (1, .int (iI z))]) hx hb dX3_go_43 rfl hl (by decide) rfl (fun ls hl => ?_)
          have L44 : ∀ (fu : Nat) (i : Nat) (tq : Int) (q1 : Int) (aq : Int) (bq9 : Int), ((i : Int) ≤ z) → (tq = ti + i) → (q1 = xIM dy er dg nb ra wy no sp bo pa fa gr i) → (0 ≤ q1 ∧ q1 ≤ 50000000) → z.toNat - i < fu → ∀ (H : Heap) (locs : List Loc), va_P D vwCl (xW cI cZ x p p1 n n1 n2 n3 a a1 a2 a3 a4 a5 a6 k k1 k2 k3 k4 k5 k6 t t1 t2 t3 t4 t5 t6 le te no li dg nb wy ((xIS dy er dg nb ra no sp bo pa fa i).1) ra ((xIS dy er dg nb ra no sp bo pa fa i).2) (xIT dy er dg nb ra no sp bo pa fa ft i) dy er tq q1 aq bq9 pak rak fak ftk dyk erk tik grk ahk bek pat rat fat ftt dyt ert tit grt aht bet ik sp bo nr te9) H → va_D A (xW cI cZ x p p1 n n1 n2 n3 a a1 a2 a3 a4 a5 a6 k k1 k2 k3 k4 k5 k6 t t1 t2 t3 t4 t5 t6 le te no li dg nb wy ((xIS dy er dg nb ra no sp bo pa fa i).1) ra ((xIS dy er dg nb ra no sp bo pa fa i).2) (xIT dy er dg nb ra no sp bo pa fa ft i) dy er tq q1 aq bq9 pak rak fak ftk dyk erk tik grk ahk bek pat rat fat ftt dyt ert tit grt aht bet ik sp bo nr te9) → va_S A H0 H locs → ∀ ls : Array Slot, lv_has ls 3 [(0, .ref x), (1, .int (iI z)), (2, .int (iI (i : Int)))] → W pr l en rm_X3_go s mi args below meth co H locs 0 0 Q (F0 mi 44 ls []) := by
            intro fu
            induction fu with
            | zero =>
              intro i tq q1 aq bq9 hi ht1 hq1 hqr hfu
              exact absurd hfu (Nat.not_lt_zero _)
            | succ fu ih44 =>
              intro i tq q1 aq bq9 hi ht1 hq1 hqr hfu H locs hP hD hS ls hl
              have hbi := xIS_bd (dy := dy) (er := er) (dg := dg) (nb := nb) (no := no) (sp := sp) hpa4 hfa hra hbo i
              have hbj := xIS_bd (dy := dy) (er := er) (dg := dg) (nb := nb) (no := no) (sp := sp) hpa4 hfa hra hbo (i + 1)
              have hci : ∀ k : Nat, k < 24 → 0 ≤ (xIS dy er dg nb ra no sp bo pa fa i).1 k ∧ (xIS dy er dg nb ra no sp bo pa fa i).1 k ≤ 49000000 := fun k hk => by have := hbi.1 k hk; omega
              have hci5 : ∀ k : Nat, k < 24 → 0 ≤ (xIS dy er dg nb ra no sp bo pa fa i).1 k ∧ (xIS dy er dg nb ra no sp bo pa fa i).1 k ≤ 50000000 := fun k hk => by have := hbi.1 k hk; omega
              have hcj : ∀ k : Nat, k < 24 → 0 ≤ (xIS dy er dg nb ra no sp bo pa fa (i + 1)).1 k ∧ (xIS dy er dg nb ra no sp bo pa fa (i + 1)).1 k ≤ 50000000 := fun k hk => by have := hbj.1 k hk; omega
              have hlj := xSp_rng (wy := wy) (z := 1) hcj hno
              refine lv_iload_n hx hb dX3_go_44 rfl (lv_at hl 2 rfl) ?_
              refine lv_iload_n hx hb dX3_go_45 rfl (lv_at hl 1 rfl) ?_
              refine kx_icmp_ge (tgt := 70) hx hb (by omega) (by omega) dX3_go_46 (by decide) (fun h46 => ?_) (fun h46 => ?_)
              · skip
                have hie : i = z.toNat := by omega
                have hiz : (i : Int) = z := by omega
                refine lv_aload_n hx hb dX3_go_70 rfl (lv_at hl 0 rfl) ?_
                refine lv_dup hx hb dX3_go_71 rfl ?_
                refine va_get (D := D) (ci := 3) (v := .int (iI te9)) (C := RX3) (T := TX3) (N := 10) hx hb hts iX3 hown hK.1 hP 0 rfl rfl 9 (by decide) (hts (.fieldLink RX3 52 "CloseClocks" "ticksEver" "I") (by decide +kernel)) (fun _ h9 => h9) rfl dX3_go_72 ?_
                refine lv_iload_n hx hb dX3_go_75 rfl (lv_at hl 1 rfl) ?_
                refine kx_iadd hx hb dX3_go_76 ?_
                refine va_put (D := D) (ci := 3) (v := .int (iI (te9 + z))) (ty := .int) (C := RX3) (T := TX3) (N := 10) hx hb hts iX3 tyX3 tyX3_ok nmX3 hown hK.1 hP hD hS 0 rfl rfl 9 (by decide) (hts (.fieldLink RX3 52 "CloseClocks" "ticksEver" "I") (by decide +kernel)) (fun _ h9 => h9) rfl (by decide +kernel) rfl rfl (Nat.le_of_ble_eq_true rfl) dX3_go_77 (fun H locs hP hD hS => ?_)
                have hP : va_P D vwCl (xW cI cZ x p p1 n n1 n2 n3 a a1 a2 a3 a4 a5 a6 k k1 k2 k3 k4 k5 k6 t t1 t2 t3 t4 t5 t6 le te no li dg nb wy ((xIS dy er dg nb ra no sp bo pa fa i).1) ra ((xIS dy er dg nb ra no sp bo pa fa i).2) (xIT dy er dg nb ra no sp bo pa fa ft i) dy er tq q1 aq bq9 pak rak fak ftk dyk erk tik grk ahk bek pat rat fat ftt dyt ert tit grt aht bet ik sp bo nr (te9 + z)) H := hP
                have hD : va_D A (xW cI cZ x p p1 n n1 n2 n3 a a1 a2 a3 a4 a5 a6 k k1 k2 k3 k4 k5 k6 t t1 t2 t3 t4 t5 t6 le te no li dg nb wy ((xIS dy er dg nb ra no sp bo pa fa i).1) ra ((xIS dy er dg nb ra no sp bo pa fa i).2) (xIT dy er dg nb ra no sp bo pa fa ft i) dy er tq q1 aq bq9 pak rak fak ftk dyk erk tik grk ahk bek pat rat fat ftt dyt ert tit grt aht bet ik sp bo nr (te9 + z)) := hD
                refine lv_aload_n hx hb dX3_go_80 rfl (lv_at hl 0 rfl) ?_
                refine va_get (D := D) (ci := 3) (v := .ref a) (C := RX3) (T := TX3) (N := 10) hx hb hts iX3 hown hK.1 hP 0 rfl rfl 2 (by decide) (hts (.fieldLink RX3 28 "CloseClocks" "now" "LCloseClocks$Clocks;") (by decide +kernel)) (fun _ h9 => h9) rfl dX3_go_81 ?_
                refine kx_cV (As := []) (rest := []) (st1 := [.int (iI (xSp (xIS dy er dg nb ra no sp bo pa fa i).1 wy no 1))]) (q0 := 0) (ci := 0) ⟨hx, hb, hml, hown, hts⟩ (c_X0_localSkew l D cI cZ a a1 a2 a3 a4 a5 a6 n n1 n2 n3 ((xIS dy er dg nb ra no sp bo pa fa i).1) ra ((xIS dy er dg nb ra no sp bo pa fa i).2) (xIT dy er dg nb ra no sp bo pa fa ft i) dy er tq q1 aq bq9 no li dg nb wy (by first | assumption | omega) (hci5) (by first | assumption | omega)) (cwV 0 hts gX3_go_X0_localSkew rfl rfl rfl (by decide +kernel) ⟨Nat.le_of_ble_eq_true rfl, Nat.le_of_ble_eq_true rfl⟩) hK (hP.sub (ws' := ckW cI cZ a a1 a2 a3 a4 a5 a6 n n1 n2 n3 ((xIS dy er dg nb ra no sp bo pa fa i).1) ra ((xIS dy er dg nb ra no sp bo pa fa i).2) (xIT dy er dg nb ra no sp bo pa fa ft i) dy er tq q1 aq bq9 no li dg nb wy) [7, 8, 9, 10, 11, 12, 13, 3, 4, 5, 6] rfl) rfl rfl rfl hl.1 rfl (Nat.le_of_ble_eq_true rfl) dX3_go_84 ⟨Nat.zero_le _, Nat.zero_le _⟩ rfl ?_
                refine kx_top (b := (if ¬ (1 ≤ z ∧ z ≤ 100) then -100000003 else if ¬ 0 < no ∨ 9000 < ti + z then -100000004 else xSp (xIS dy er dg nb ra no sp bo pa fa z.toNat).1 wy no 1)) (by (repeat' split) <;> first | rfl | omega | contradiction | (rw [hie]; done)) ?_
                exact hret (tq, (te9 + z), q1, (xIS dy er dg nb ra no sp bo pa fa i).1, (xIS dy er dg nb ra no sp bo pa fa i).2, (xIT dy er dg nb ra no sp bo pa fa ft i), aq, bq9) H locs _ _ (⟨(by (try dsimp only); (repeat' split) <;> first | rfl | omega | contradiction | (rw [hq1, hie]; done) | (rw [hie]; done)), (by (try dsimp only); (repeat' split) <;> first | rfl | omega | contradiction | (rw [hq1, hie]; done) | (rw [hie]; done)), (by (try dsimp only); (repeat' split) <;> first | rfl | omega | contradiction | (rw [hq1, hie]; done) | (rw [hie]; done)), (by (try dsimp only); (repeat' split) <;> first | rfl | omega | contradiction | (rw [hq1, hie]; done) | (rw [hie]; done)), (by (try dsimp only); (repeat' split) <;> first | rfl | omega | contradiction | (rw [hq1, hie]; done) | (rw [hie]; done)), (by (try dsimp only); (repeat' split) <;> first | rfl | omega | contradiction | (rw [hq1, hie]; done) | (rw [hie]; done))⟩) hP hD hS dX3_go_87
              · skip
                refine lv_aload_n hx hb dX3_go_49 rfl (lv_at hl 0 rfl) ?_
                refine va_get (D := D) (ci := 3) (v := .ref a) (C := RX3) (T := TX3) (N := 10) hx hb hts iX3 hown hK.1 hP 0 rfl rfl 2 (by decide) (hts (.fieldLink RX3 28 "CloseClocks" "now" "LCloseClocks$Clocks;") (by decide +kernel)) (fun _ h9 => h9) rfl dX3_go_50 ?_
                refine lv_aload_n hx hb dX3_go_53 rfl (lv_at hl 0 rfl) ?_
                refine va_get (D := D) (ci := 3) (v := .int (iI sp)) (C := RX3) (T := TX3) (N := 10) hx hb hts iX3 hown hK.1 hP 0 rfl rfl 6 (by decide) (hts (.fieldLink RX3 42 "CloseClocks" "step" "I") (by decide +kernel)) (fun _ h9 => h9) rfl dX3_go_54 ?_
                refine lv_aload_n hx hb dX3_go_57 rfl (lv_at hl 0 rfl) ?_
                refine va_get (D := D) (ci := 3) (v := .int (iI bo)) (C := RX3) (T := TX3) (N := 10) hx hb hts iX3 hown hK.1 hP 0 rfl rfl 7 (by decide) (hts (.fieldLink RX3 46 "CloseClocks" "boost" "I") (by decide +kernel)) (fun _ h9 => h9) rfl dX3_go_58 ?_
                refine kx_cVW (As := [.int (iI sp), .int (iI bo)]) (rest := []) (wr := [(x, .inr (3, [.ref p, .ref n, .ref a, .ref k, .ref t, .int (iI ik), .int (iI sp), .int (iI bo), .int (iI nr), .int (iI te9)])), (p, .inr (2, [.ref p1, .int (iI le)])), (p1, aI cI 61 te), (k, .inr (0, [.ref n, .ref k1, .ref k2, .ref k3, .ref k4, .ref k5, .ref k6, .int (iI tik), .int (iI grk), .int (iI ahk), .int (iI bek)])), (k1, aI cI 24 pak), (k2, aI cI 6 rak), (k3, aI cI 6 fak), (k4, aI cI 6 ftk), (k5, aI cI 36 dyk), (k6, aI cI 36 erk), (t, .inr (0, [.ref n, .ref t1, .ref t2, .ref t3, .ref t4, .ref t5, .ref t6, .int (iI tit), .int (iI grt), .int (iI aht), .int (iI bet)])), (t1, aI cI 24 pat), (t2, aI cI 6 rat), (t3, aI cI 6 fat), (t4, aI cI 6 ftt), (t5, aI cI 36 dyt), (t6, aI cI 36 ert)]) (q0 := 0) (ci := 0) ⟨hx, hb, hml, hown, hts⟩ (c_X0_tick l D cI cZ a a1 a2 a3 a4 a5 a6 n n1 n2 n3 ((xIS dy er dg nb ra no sp bo pa fa i).1) ra ((xIS dy er dg nb ra no sp bo pa fa i).2) (xIT dy er dg nb ra no sp bo pa fa ft i) dy er tq q1 aq bq9 no li dg nb wy sp bo (by first | assumption | omega) (hci5) (by first | assumption | omega) (by first | assumption | omega) (by first | assumption | omega) (by first | assumption | omega) (by first | assumption | omega) (by first | assumption | omega) (by first | assumption | omega) (hbi.2) (by first | assumption | omega) (hci) (by first | assumption | omega)) (cwV 2 hts gX3_go_X0_tick rfl rfl rfl (by decide +kernel) ⟨Nat.le_of_ble_eq_true rfl, Nat.le_of_ble_eq_true rfl⟩) hK hP hD hS hA [7, 8, 9, 10, 11, 12, 13, 3, 4, 5, 6] [0, 1, 2, 14, 15, 16, 17, 18, 19, 20, 21, 22, 23, 24, 25, 26, 27] rfl rfl (by decide) (by decide) (by decide) rfl rfl rfl hl.1 rfl (Nat.le_of_ble_eq_true rfl) dX3_go_61 ⟨Nat.le_of_ble_eq_true rfl, Nat.le_of_ble_eq_true rfl⟩ (fun u H locs hq hP hD hS => ?_)
                obtain ⟨u_1, u_2⟩ := u
                have hP : va_P D vwCl (xW cI cZ x p p1 n n1 n2 n3 a a1 a2 a3 a4 a5 a6 k k1 k2 k3 k4 k5 k6 t t1 t2 t3 t4 t5 t6 le te no li dg nb wy (xPa (xIS dy er dg nb ra no sp bo pa fa i).1 ra (xIS dy er dg nb ra no sp bo pa fa i).2 dy er dg nb no sp bo) ra (xFa (xIS dy er dg nb ra no sp bo pa fa i).1 (xIS dy er dg nb ra no sp bo pa fa i).2 dy er dg nb no sp) (xFt (xIS dy er dg nb ra no sp bo pa fa i).1 (xIS dy er dg nb ra no sp bo pa fa i).2 (xIT dy er dg nb ra no sp bo pa fa ft i) dy er dg nb no sp) dy er (tq + 1) (max q1 (xSp (xPa (xIS dy er dg nb ra no sp bo pa fa i).1 ra (xIS dy er dg nb ra no sp bo pa fa i).2 dy er dg nb no sp bo) wy no 1)) u_1 u_2 pak rak fak ftk dyk erk tik grk ahk bek pat rat fat ftt dyt ert tit grt aht bet ik sp bo nr te9) H := hP.sub [0, 1, 2, 24, 25, 26, 27, 17, 18, 19, 20, 21, 22, 23, 3, 4, 5, 6, 7, 8, 9, 10, 11, 12, 13, 14, 15, 16] rfl
                have hD : va_D A (xW cI cZ x p p1 n n1 n2 n3 a a1 a2 a3 a4 a5 a6 k k1 k2 k3 k4 k5 k6 t t1 t2 t3 t4 t5 t6 le te no li dg nb wy (xPa (xIS dy er dg nb ra no sp bo pa fa i).1 ra (xIS dy er dg nb ra no sp bo pa fa i).2 dy er dg nb no sp bo) ra (xFa (xIS dy er dg nb ra no sp bo pa fa i).1 (xIS dy er dg nb ra no sp bo pa fa i).2 dy er dg nb no sp) (xFt (xIS dy er dg nb ra no sp bo pa fa i).1 (xIS dy er dg nb ra no sp bo pa fa i).2 (xIT dy er dg nb ra no sp bo pa fa ft i) dy er dg nb no sp) dy er (tq + 1) (max q1 (xSp (xPa (xIS dy er dg nb ra no sp bo pa fa i).1 ra (xIS dy er dg nb ra no sp bo pa fa i).2 dy er dg nb no sp bo) wy no 1)) u_1 u_2 pak rak fak ftk dyk erk tik grk ahk bek pat rat fat ftt dyt ert tit grt aht bet ik sp bo nr te9) := hD.sub [0, 1, 2, 24, 25, 26, 27, 17, 18, 19, 20, 21, 22, 23, 3, 4, 5, 6, 7, 8, 9, 10, 11, 12, 13, 14, 15, 16] (by decide) rfl
                refine W.eq (g2 := F0 mi 64 ls []) rfl ?_
                refine kx_iinc (z := ((i + 1 : Nat) : Int)) (lv' := [(2, .int (iI ((i + 1 : Nat) : Int))), (0, .ref x), (1, .int (iI z))]) hx hb dX3_go_64 hl (k0 := 2) rfl (by omega) (by decide) rfl (fun ls hl => ?_)
                refine lv_goto (tgt := 44) hx hb dX3_go_67 (by decide) ?_
                exact ih44 (i + 1) (tq + 1) (max q1 (xSp (xIS dy er dg nb ra no sp bo pa fa (i + 1)).1 wy no 1)) u_1 u_2 (by first | assumption | omega) (by omega) (by rw [xIM, hq1]) (by first | assumption | omega) (by omega) H locs hP hD hS ls (lv_sub hl [1, 2, 0] rfl)
          exact L44 (z.toNat - 0 + 1) 0 ti gr ah be (by first | assumption | omega) (by omega) (rfl) (by first | assumption | omega) (Nat.lt_succ_self _) H locs hP hD hS ls (lv_sub hl [1, 2, 0] rfl)
        · skip
          refine kx_ldc (z := -100000004) hx hb hown (hts (.constant RX3 75 (-100000004)) (by decide +kernel)) dX3_go_39 (by decide) ?_
          refine kx_top (b := (if ¬ (1 ≤ z ∧ z ≤ 100) then -100000003 else if ¬ 0 < no ∨ 9000 < ti + z then -100000004 else xSp (xIS dy er dg nb ra no sp bo pa fa z.toNat).1 wy no 1)) (by (repeat' split) <;> first | rfl | omega | contradiction | (rw [hie]; done)) ?_
          exact hret (ti, te9, gr, pa, fa, ft, ah, be) H locs _ _ (⟨(by (try dsimp only); (repeat' split) <;> first | rfl | omega | contradiction | (rw [hq1, hie]; done) | (rw [hie]; done)), (by (try dsimp only); (repeat' split) <;> first | rfl | omega | contradiction | (rw [hq1, hie]; done) | (rw [hie]; done)), (by (try dsimp only); (repeat' split) <;> first | rfl | omega | contradiction | (rw [hq1, hie]; done) | (rw [hie]; done)), (by (try dsimp only); (repeat' split) <;> first | rfl | omega | contradiction | (rw [hq1, hie]; done) | (rw [hie]; done)), (by (try dsimp only); (repeat' split) <;> first | rfl | omega | contradiction | (rw [hq1, hie]; done) | (rw [hie]; done)), (by (try dsimp only); (repeat' split) <;> first | rfl | omega | contradiction | (rw [hq1, hie]; done) | (rw [hie]; done))⟩) hP hD hS dX3_go_41
    · skip
      refine kx_ldc (z := -100000003) hx hb hown (hts (.constant RX3 55 (-100000003)) (by decide +kernel)) dX3_go_11 (by decide) ?_
      refine kx_top (b := (if ¬ (1 ≤ z ∧ z ≤ 100) then -100000003 else if ¬ 0 < no ∨ 9000 < ti + z then -100000004 else xSp (xIS dy er dg nb ra no sp bo pa fa z.toNat).1 wy no 1)) (by (repeat' split) <;> first | rfl | omega | contradiction | (rw [hie]; done)) ?_
      exact hret (ti, te9, gr, pa, fa, ft, ah, be) H locs _ _ (⟨(by (try dsimp only); (repeat' split) <;> first | rfl | omega | contradiction | (rw [hq1, hie]; done) | (rw [hie]; done)), (by (try dsimp only); (repeat' split) <;> first | rfl | omega | contradiction | (rw [hq1, hie]; done) | (rw [hie]; done)), (by (try dsimp only); (repeat' split) <;> first | rfl | omega | contradiction | (rw [hq1, hie]; done) | (rw [hie]; done)), (by (try dsimp only); (repeat' split) <;> first | rfl | omega | contradiction | (rw [hq1, hie]; done) | (rw [hie]; done)), (by (try dsimp only); (repeat' split) <;> first | rfl | omega | contradiction | (rw [hq1, hie]; done) | (rw [hie]; done)), (by (try dsimp only); (repeat' split) <;> first | rfl | omega | contradiction | (rw [hq1, hie]; done) | (rw [hie]; done))⟩) hP hD hS dX3_go_13
def rm_X3_node : Room := ({ frames := 4, cells := 0, slots := 0, locals := 94 } : Room)
set_option maxHeartbeats 4000000 in
set_option maxRecDepth 100000 in
theorem c_X3_node (l : Launch) (D : va_G) (cI cZ : ClassId) (x p p1 n n1 n2 n3 a a1 a2 a3 a4 a5 a6 k k1 k2 k3 k4 k5 k6 t t1 t2 t3 t4 t5 t6 : Nat) (le : Int) (te : Nat → Int) (no li : Int) (dg nb wy pa ra fa ft dy er : Nat → Int) (ti gr ah be : Int) (pak rak fak ftk dyk erk : Nat → Int) (tik grk ahk bek : Int) (pat rat fat ftt dyt ert : Nat → Int) (tit grt aht bet ik sp bo nr te9 : Int) (z q : Int) (hno : 0 ≤ no ∧ no ≤ 6) (hwy : ∀ k : Nat, k < 36 → 0 ≤ wy k ∧ wy k ≤ 1000) (hdg : ∀ v : Nat, v < 6 → 0 ≤ dg v ∧ dg v ≤ 5) (hnb : ∀ v k : Nat, v < 6 → (k : Int) < dg v → 0 ≤ nb (v * 6 + k) ∧ nb (v * 6 + k) < 6) (hpa : ∀ k : Nat, k < 24 → 0 ≤ pa k ∧ pa k ≤ 50000000) (hdy : ∀ k : Nat, k < 36 → 0 ≤ dy k ∧ dy k ≤ 3) (her : ∀ k : Nat, k < 36 → -9 ≤ er k ∧ er k ≤ 9) (hsp : 1 ≤ sp ∧ sp ≤ 500) (hz : -2147483648 ≤ z ∧ z < 2147483648) (hq : -2147483648 ≤ q ∧ q < 2147483648) : kWR l yX3_node wsX3_node rm_X3_node D cI cZ [.ref x, .int (iI z), .int (iI q)] (xW cI cZ x p p1 n n1 n2 n3 a a1 a2 a3 a4 a5 a6 k k1 k2 k3 k4 k5 k6 t t1 t2 t3 t4 t5 t6 le te no li dg nb wy pa ra fa ft dy er ti gr ah be pak rak fak ftk dyk erk tik grk ahk bek pat rat fat ftt dyt ert tit grt aht bet ik sp bo nr te9) (fun u : Int × Int => some (.int (iI (xNo pa ra fa ft dy er dg nb no sp z q)))) (fun u : Int × Int => True) (fun u : Int × Int => xW cI cZ x p p1 n n1 n2 n3 a a1 a2 a3 a4 a5 a6 k k1 k2 k3 k4 k5 k6 t t1 t2 t3 t4 t5 t6 le te no li dg nb wy pa ra fa ft dy er ti gr u.1 u.2 pak rak fak ftk dyk erk tik grk ahk bek pat rat fat ftt dyt ert tit grt aht bet ik sp bo nr te9) 0 0 := by
  refine kx_WRi (cc := cX3_node) (maxL := 3) (by decide) rfl (Nat.le_of_ble_eq_true rfl) ?_
  intro pr en s mi args below meth co Q A hx hb hml hown hts hK hin hA hP hD hS hret ls hl
  have hown : s.vm.findClass RX3 = some mi.cls := hown
  have iX3 : ∀ w ∈ wsX30, w ∈ wsX3_node := by decide +kernel
  have iX0 : ∀ w ∈ wsX00, w ∈ wsX3_node := by decide +kernel
  have iX1 : ∀ w ∈ wsX10, w ∈ wsX3_node := by decide +kernel
  have hl : lv_has ls 3 [(0, .ref x), (1, .int (iI z)), (2, .int (iI q))] := hl
  generalize hH0 : s.heap = H0 at hA hP hS hret ⊢
  obtain ⟨H, hH⟩ : ∃ H : Heap, H = H0 := ⟨_, rfl⟩
  obtain ⟨locs, hlocs⟩ : ∃ locs : List Loc, locs = [] := ⟨_, rfl⟩
  have hS : va_S A H0 H locs := by rw [hH, hlocs]; exact hS
  have hP : va_P D vwCl (xW cI cZ x p p1 n n1 n2 n3 a a1 a2 a3 a4 a5 a6 k k1 k2 k3 k4 k5 k6 t t1 t2 t3 t4 t5 t6 le te no li dg nb wy pa ra fa ft dy er ti gr ah be pak rak fak ftk dyk erk tik grk ahk bek pat rat fat ftt dyt ert tit grt aht bet ik sp bo nr te9) H := by rw [hH]; exact hP
  suffices hgo : W pr l en rm_X3_node s mi args below meth co H locs 0 0 Q (F0 mi 0 ls []) by rw [hH, hlocs] at hgo; exact hgo
  clear hH hlocs
  refine lv_aload_n hx hb dX3_node_0 rfl (lv_at hl 0 rfl) ?_
  refine va_get (D := D) (ci := 3) (v := .ref n) (C := RX3) (T := TX3) (N := 10) hx hb hts iX3 hown hK.1 hP 0 rfl rfl 1 (by decide) (hts (.fieldLink RX3 19 "CloseClocks" "shape" "LCloseClocks$Net;") (by decide +kernel)) (fun _ h9 => h9) rfl dX3_node_1 ?_
  refine lv_iload_n hx hb dX3_node_4 rfl (lv_at hl 1 rfl) ?_
  refine kx_cV (As := [.int (iI z)]) (rest := []) (st1 := [.int (iI (if (0 ≤ z ∧ z < no) then 1 else 0))]) (q0 := 0) (ci := 1) ⟨hx, hb, hml, hown, hts⟩ (c_X1_hasNode l D cI cZ n n1 n2 n3 no li dg nb wy z (by first | assumption | omega) (by first | assumption | omega)) (cwV 1 hts gX3_node_X1_hasNode rfl rfl rfl (by decide +kernel) ⟨Nat.le_of_ble_eq_true rfl, Nat.le_of_ble_eq_true rfl⟩) hK (hP.sub (ws' := ntW cI cZ n n1 n2 n3 no li dg nb wy) [3, 4, 5, 6] rfl) rfl rfl rfl hl.1 rfl (Nat.le_of_ble_eq_true rfl) dX3_node_5 ⟨Nat.zero_le _, Nat.zero_le _⟩ rfl ?_
  refine kx_if_neB (tgt := 14) hx hb dX3_node_8 (by decide) (fun h8 => ?_) (fun h8 => ?_)
  · skip
    refine lv_iload_n hx hb dX3_node_14 rfl (lv_at hl 2 rfl) ?_
    rcases (show (q < 0 ∨ 8 < q) ∨ q = 0 ∨ q = 1 ∨ q = 2 ∨ q = 3 ∨ q = 4 ∨ q = 5 ∨ q = 6 ∨ q = 7 ∨ q = 8 by omega) with hsw | hsw | hsw | hsw | hsw | hsw | hsw | hsw | hsw | hsw
    · skip
      refine lv_tableOut (tgt := 157) hx hb dX3_node_15 (by rw [iI_toInt (by omega)]; omega) (by decide) ?_
      refine kx_ldc (z := -100000003) hx hb hown (hts (.constant RX3 55 (-100000003)) (by decide +kernel)) dX3_node_157 (by decide) ?_
      refine kx_top (b := (xNo pa ra fa ft dy er dg nb no sp z q)) (by unfold xNo; (repeat' split) <;> first | rfl | omega | contradiction) ?_
      exact hret (ah, be) H locs _ _ (trivial) hP hD hS dX3_node_159
    · skip
      refine lv_tableIn (tgt := 64) hx hb dX3_node_15 (by rw [iI_toInt (by omega)]; omega) (by rw [iI_toInt (by omega)]; omega) (by rw [iI_toInt (by omega), hsw]; rfl) (by decide) ?_
      refine lv_aload_n hx hb dX3_node_64 rfl (lv_at hl 0 rfl) ?_
      refine va_get (D := D) (ci := 3) (v := .ref a) (C := RX3) (T := TX3) (N := 10) hx hb hts iX3 hown hK.1 hP 0 rfl rfl 2 (by decide) (hts (.fieldLink RX3 28 "CloseClocks" "now" "LCloseClocks$Clocks;") (by decide +kernel)) (fun _ h9 => h9) rfl dX3_node_65 ?_
      refine lv_iload_n hx hb dX3_node_68 rfl (lv_at hl 1 rfl) ?_
      refine kx_top (b := ((z.toNat : Nat) : Int)) (by omega) ?_
      refine kx_cV (As := [.int (iI ((z.toNat : Nat) : Int))]) (rest := []) (st1 := [.int (iI (pa (z.toNat)))]) (q0 := 0) (ci := 0) ⟨hx, hb, hml, hown, hts⟩ (c_X0_clockOf l D cI cZ a a1 a2 a3 a4 a5 a6 n n1 n2 n3 pa ra fa ft dy er ti gr ah be no li dg nb wy (z.toNat) (by first | assumption | omega)) (cwV 1 hts gX3_node_X0_clockOf rfl rfl rfl (by decide +kernel) ⟨Nat.le_of_ble_eq_true rfl, Nat.le_of_ble_eq_true rfl⟩) hK (hP.sub (ws' := ckW cI cZ a a1 a2 a3 a4 a5 a6 n n1 n2 n3 pa ra fa ft dy er ti gr ah be no li dg nb wy) [7, 8, 9, 10, 11, 12, 13, 3, 4, 5, 6] rfl) rfl rfl rfl hl.1 rfl (Nat.le_of_ble_eq_true rfl) dX3_node_69 ⟨Nat.zero_le _, Nat.zero_le _⟩ rfl ?_
      refine kx_top (b := (xNo pa ra fa ft dy er dg nb no sp z q)) (by unfold xNo; (repeat' split) <;> first | rfl | omega | contradiction) ?_
      exact hret (ah, be) H locs _ _ (trivial) hP hD hS dX3_node_72
    · skip
      refine lv_tableIn (tgt := 73) hx hb dX3_node_15 (by rw [iI_toInt (by omega)]; omega) (by rw [iI_toInt (by omega)]; omega) (by rw [iI_toInt (by omega), hsw]; rfl) (by decide) ?_
      refine lv_aload_n hx hb dX3_node_73 rfl (lv_at hl 0 rfl) ?_
      refine va_get (D := D) (ci := 3) (v := .ref a) (C := RX3) (T := TX3) (N := 10) hx hb hts iX3 hown hK.1 hP 0 rfl rfl 2 (by decide) (hts (.fieldLink RX3 28 "CloseClocks" "now" "LCloseClocks$Clocks;") (by decide +kernel)) (fun _ h9 => h9) rfl dX3_node_74 ?_
      refine va_getN (D := D) (ci := 0) (v := .ref a2) (C := RX0) (T := TX0) (N := 11) hx hb hts iX0 hown hK.1 hP 7 rfl rfl 2 (by decide) (va_Nw.use rfl (hK.2.1 (RX3, 91, RX0, "rates", "[I") (List.mem_of_getElem? (i := 7) rfl))) (fun _ h9 => h9) rfl dX3_node_77 ?_
      refine lv_iload_n hx hb dX3_node_80 rfl (lv_at hl 1 rfl) ?_
      refine kx_iald (k := z.toNat) hx hb hK hP 9 rfl (by omega) (by omega) (by decide) dX3_node_81 ?_
      refine kx_top (b := (xNo pa ra fa ft dy er dg nb no sp z q)) (by unfold xNo; (repeat' split) <;> first | rfl | omega | contradiction) ?_
      exact hret (ah, be) H locs _ _ (trivial) hP hD hS dX3_node_82
    · skip
      refine lv_tableIn (tgt := 83) hx hb dX3_node_15 (by rw [iI_toInt (by omega)]; omega) (by rw [iI_toInt (by omega)]; omega) (by rw [iI_toInt (by omega), hsw]; rfl) (by decide) ?_
      refine lv_aload_n hx hb dX3_node_83 rfl (lv_at hl 0 rfl) ?_
      refine va_get (D := D) (ci := 3) (v := .ref a) (C := RX3) (T := TX3) (N := 10) hx hb hts iX3 hown hK.1 hP 0 rfl rfl 2 (by decide) (hts (.fieldLink RX3 28 "CloseClocks" "now" "LCloseClocks$Clocks;") (by decide +kernel)) (fun _ h9 => h9) rfl dX3_node_84 ?_
      refine va_getN (D := D) (ci := 0) (v := .ref a3) (C := RX0) (T := TX0) (N := 11) hx hb hts iX0 hown hK.1 hP 7 rfl rfl 3 (by decide) (va_Nw.use rfl (hK.2.1 (RX3, 133, RX0, "fast", "[I") (List.mem_of_getElem? (i := 8) rfl))) (fun _ h9 => h9) rfl dX3_node_87 ?_
      refine lv_iload_n hx hb dX3_node_90 rfl (lv_at hl 1 rfl) ?_
      refine kx_iald (k := z.toNat) hx hb hK hP 10 rfl (by omega) (by omega) (by decide) dX3_node_91 ?_
      refine kx_top (b := (xNo pa ra fa ft dy er dg nb no sp z q)) (by unfold xNo; (repeat' split) <;> first | rfl | omega | contradiction) ?_
      exact hret (ah, be) H locs _ _ (trivial) hP hD hS dX3_node_92
    · skip
      refine lv_tableIn (tgt := 93) hx hb dX3_node_15 (by rw [iI_toInt (by omega)]; omega) (by rw [iI_toInt (by omega)]; omega) (by rw [iI_toInt (by omega), hsw]; rfl) (by decide) ?_
      refine lv_aload_n hx hb dX3_node_93 rfl (lv_at hl 0 rfl) ?_
      refine va_get (D := D) (ci := 3) (v := .ref n) (C := RX3) (T := TX3) (N := 10) hx hb hts iX3 hown hK.1 hP 0 rfl rfl 1 (by decide) (hts (.fieldLink RX3 19 "CloseClocks" "shape" "LCloseClocks$Net;") (by decide +kernel)) (fun _ h9 => h9) rfl dX3_node_94 ?_
      refine va_getN (D := D) (ci := 1) (v := .ref n1) (C := RX1) (T := TX1) (N := 5) hx hb hts iX1 hown hK.1 hP 3 rfl rfl 0 (by decide) (va_Nw.use rfl (hK.2.1 (RX3, 136, RX1, "degrees", "[I") (List.mem_of_getElem? (i := 1) rfl))) (fun _ h9 => h9) rfl dX3_node_97 ?_
      refine lv_iload_n hx hb dX3_node_100 rfl (lv_at hl 1 rfl) ?_
      refine kx_iald (k := z.toNat) hx hb hK hP 4 rfl (by omega) (by omega) (by decide) dX3_node_101 ?_
      refine kx_top (b := (xNo pa ra fa ft dy er dg nb no sp z q)) (by unfold xNo; (repeat' split) <;> first | rfl | omega | contradiction) ?_
      exact hret (ah, be) H locs _ _ (trivial) hP hD hS dX3_node_102
    · skip
      refine lv_tableIn (tgt := 103) hx hb dX3_node_15 (by rw [iI_toInt (by omega)]; omega) (by rw [iI_toInt (by omega)]; omega) (by rw [iI_toInt (by omega), hsw]; rfl) (by decide) ?_
      refine lv_aload_n hx hb dX3_node_103 rfl (lv_at hl 0 rfl) ?_
      refine va_get (D := D) (ci := 3) (v := .ref a) (C := RX3) (T := TX3) (N := 10) hx hb hts iX3 hown hK.1 hP 0 rfl rfl 2 (by decide) (hts (.fieldLink RX3 28 "CloseClocks" "now" "LCloseClocks$Clocks;") (by decide +kernel)) (fun _ h9 => h9) rfl dX3_node_104 ?_
      refine lv_iload_n hx hb dX3_node_107 rfl (lv_at hl 1 rfl) ?_
      refine kx_top (b := ((z.toNat : Nat) : Int)) (by omega) ?_
      refine kx_cVW (As := [.int (iI ((z.toNat : Nat) : Int))]) (rest := []) (wr := [(x, .inr (3, [.ref p, .ref n, .ref a, .ref k, .ref t, .int (iI ik), .int (iI sp), .int (iI bo), .int (iI nr), .int (iI te9)])), (p, .inr (2, [.ref p1, .int (iI le)])), (p1, aI cI 61 te), (k, .inr (0, [.ref n, .ref k1, .ref k2, .ref k3, .ref k4, .ref k5, .ref k6, .int (iI tik), .int (iI grk), .int (iI ahk), .int (iI bek)])), (k1, aI cI 24 pak), (k2, aI cI 6 rak), (k3, aI cI 6 fak), (k4, aI cI 6 ftk), (k5, aI cI 36 dyk), (k6, aI cI 36 erk), (t, .inr (0, [.ref n, .ref t1, .ref t2, .ref t3, .ref t4, .ref t5, .ref t6, .int (iI tit), .int (iI grt), .int (iI aht), .int (iI bet)])), (t1, aI cI 24 pat), (t2, aI cI 6 rat), (t3, aI cI 6 fat), (t4, aI cI 6 ftt), (t5, aI cI 36 dyt), (t6, aI cI 36 ert)]) (q0 := 0) (ci := 0) ⟨hx, hb, hml, hown, hts⟩ (c_X0_aheadOf l D cI cZ a a1 a2 a3 a4 a5 a6 n n1 n2 n3 pa ra fa ft dy er ti gr ah be no li dg nb wy (z.toNat) (by first | assumption | omega) (by first | assumption | omega) (by first | assumption | omega) (by first | assumption | omega) (by first | assumption | omega) (by first | assumption | omega)) (cwV 1 hts gX3_node_X0_aheadOf rfl rfl rfl (by decide +kernel) ⟨Nat.le_of_ble_eq_true rfl, Nat.le_of_ble_eq_true rfl⟩) hK hP hD hS hA [7, 8, 9, 10, 11, 12, 13, 3, 4, 5, 6] [0, 1, 2, 14, 15, 16, 17, 18, 19, 20, 21, 22, 23, 24, 25, 26, 27] rfl rfl (by decide) (by decide) (by decide) rfl rfl rfl hl.1 rfl (Nat.le_of_ble_eq_true rfl) dX3_node_108 ⟨Nat.le_of_ble_eq_true rfl, Nat.le_of_ble_eq_true rfl⟩ (fun u H locs hq hP hD hS => ?_)
      have hP : va_P D vwCl (xW cI cZ x p p1 n n1 n2 n3 a a1 a2 a3 a4 a5 a6 k k1 k2 k3 k4 k5 k6 t t1 t2 t3 t4 t5 t6 le te no li dg nb wy pa ra fa ft dy er ti gr (xAh pa dy er dg nb (z.toNat)) (xBe pa dy er dg nb (z.toNat)) pak rak fak ftk dyk erk tik grk ahk bek pat rat fat ftt dyt ert tit grt aht bet ik sp bo nr te9) H := hP.sub [0, 1, 2, 24, 25, 26, 27, 17, 18, 19, 20, 21, 22, 23, 3, 4, 5, 6, 7, 8, 9, 10, 11, 12, 13, 14, 15, 16] rfl
      have hD : va_D A (xW cI cZ x p p1 n n1 n2 n3 a a1 a2 a3 a4 a5 a6 k k1 k2 k3 k4 k5 k6 t t1 t2 t3 t4 t5 t6 le te no li dg nb wy pa ra fa ft dy er ti gr (xAh pa dy er dg nb (z.toNat)) (xBe pa dy er dg nb (z.toNat)) pak rak fak ftk dyk erk tik grk ahk bek pat rat fat ftt dyt ert tit grt aht bet ik sp bo nr te9) := hD.sub [0, 1, 2, 24, 25, 26, 27, 17, 18, 19, 20, 21, 22, 23, 3, 4, 5, 6, 7, 8, 9, 10, 11, 12, 13, 14, 15, 16] (by decide) rfl
      refine W.eq (g2 := F0 mi 111 ls [.int (iI (xAh pa dy er dg nb (z.toNat)))]) rfl ?_
      refine kx_top (b := (xNo pa ra fa ft dy er dg nb no sp z q)) (by unfold xNo; (repeat' split) <;> first | rfl | omega | contradiction) ?_
      exact hret ((xAh pa dy er dg nb (z.toNat)), (xBe pa dy er dg nb (z.toNat))) H locs _ _ (trivial) hP hD hS dX3_node_111
    · skip
      refine lv_tableIn (tgt := 112) hx hb dX3_node_15 (by rw [iI_toInt (by omega)]; omega) (by rw [iI_toInt (by omega)]; omega) (by rw [iI_toInt (by omega), hsw]; rfl) (by decide) ?_
      refine lv_aload_n hx hb dX3_node_112 rfl (lv_at hl 0 rfl) ?_
      refine va_get (D := D) (ci := 3) (v := .ref a) (C := RX3) (T := TX3) (N := 10) hx hb hts iX3 hown hK.1 hP 0 rfl rfl 2 (by decide) (hts (.fieldLink RX3 28 "CloseClocks" "now" "LCloseClocks$Clocks;") (by decide +kernel)) (fun _ h9 => h9) rfl dX3_node_113 ?_
      refine lv_iload_n hx hb dX3_node_116 rfl (lv_at hl 1 rfl) ?_
      refine kx_top (b := ((z.toNat : Nat) : Int)) (by omega) ?_
      refine kx_cVW (As := [.int (iI ((z.toNat : Nat) : Int))]) (rest := []) (wr := [(x, .inr (3, [.ref p, .ref n, .ref a, .ref k, .ref t, .int (iI ik), .int (iI sp), .int (iI bo), .int (iI nr), .int (iI te9)])), (p, .inr (2, [.ref p1, .int (iI le)])), (p1, aI cI 61 te), (k, .inr (0, [.ref n, .ref k1, .ref k2, .ref k3, .ref k4, .ref k5, .ref k6, .int (iI tik), .int (iI grk), .int (iI ahk), .int (iI bek)])), (k1, aI cI 24 pak), (k2, aI cI 6 rak), (k3, aI cI 6 fak), (k4, aI cI 6 ftk), (k5, aI cI 36 dyk), (k6, aI cI 36 erk), (t, .inr (0, [.ref n, .ref t1, .ref t2, .ref t3, .ref t4, .ref t5, .ref t6, .int (iI tit), .int (iI grt), .int (iI aht), .int (iI bet)])), (t1, aI cI 24 pat), (t2, aI cI 6 rat), (t3, aI cI 6 fat), (t4, aI cI 6 ftt), (t5, aI cI 36 dyt), (t6, aI cI 36 ert)]) (q0 := 0) (ci := 0) ⟨hx, hb, hml, hown, hts⟩ (c_X0_behindOf l D cI cZ a a1 a2 a3 a4 a5 a6 n n1 n2 n3 pa ra fa ft dy er ti gr ah be no li dg nb wy (z.toNat) (by first | assumption | omega) (by first | assumption | omega) (by first | assumption | omega) (by first | assumption | omega) (by first | assumption | omega) (by first | assumption | omega)) (cwV 1 hts gX3_node_X0_behindOf rfl rfl rfl (by decide +kernel) ⟨Nat.le_of_ble_eq_true rfl, Nat.le_of_ble_eq_true rfl⟩) hK hP hD hS hA [7, 8, 9, 10, 11, 12, 13, 3, 4, 5, 6] [0, 1, 2, 14, 15, 16, 17, 18, 19, 20, 21, 22, 23, 24, 25, 26, 27] rfl rfl (by decide) (by decide) (by decide) rfl rfl rfl hl.1 rfl (Nat.le_of_ble_eq_true rfl) dX3_node_117 ⟨Nat.le_of_ble_eq_true rfl, Nat.le_of_ble_eq_true rfl⟩ (fun u H locs hq hP hD hS => ?_)
      have hP : va_P D vwCl (xW cI cZ x p p1 n n1 n2 n3 a a1 a2 a3 a4 a5 a6 k k1 k2 k3 k4 k5 k6 t t1 t2 t3 t4 t5 t6 le te no li dg nb wy pa ra fa ft dy er ti gr (xAh pa dy er dg nb (z.toNat)) (xBe pa dy er dg nb (z.toNat)) pak rak fak ftk dyk erk tik grk ahk bek pat rat fat ftt dyt ert tit grt aht bet ik sp bo nr te9) H := hP.sub [0, 1, 2, 24, 25, 26, 27, 17, 18, 19, 20, 21, 22, 23, 3, 4, 5, 6, 7, 8, 9, 10, 11, 12, 13, 14, 15, 16] rfl
      have hD : va_D A (xW cI cZ x p p1 n n1 n2 n3 a a1 a2 a3 a4 a5 a6 k k1 k2 k3 k4 k5 k6 t t1 t2 t3 t4 t5 t6 le te no li dg nb wy pa ra fa ft dy er ti gr (xAh pa dy er dg nb (z.toNat)) (xBe pa dy er dg nb (z.toNat)) pak rak fak ftk dyk erk tik grk ahk bek pat rat fat ftt dyt ert tit grt aht bet ik sp bo nr te9) := hD.sub [0, 1, 2, 24, 25, 26, 27, 17, 18, 19, 20, 21, 22, 23, 3, 4, 5, 6, 7, 8, 9, 10, 11, 12, 13, 14, 15, 16] (by decide) rfl
      refine W.eq (g2 := F0 mi 120 ls [.int (iI (xBe pa dy er dg nb (z.toNat)))]) rfl ?_
      refine kx_top (b := (xNo pa ra fa ft dy er dg nb no sp z q)) (by unfold xNo; (repeat' split) <;> first | rfl | omega | contradiction) ?_
      exact hret ((xAh pa dy er dg nb (z.toNat)), (xBe pa dy er dg nb (z.toNat))) H locs _ _ (trivial) hP hD hS dX3_node_120
    · skip
      refine lv_tableIn (tgt := 121) hx hb dX3_node_15 (by rw [iI_toInt (by omega)]; omega) (by rw [iI_toInt (by omega)]; omega) (by rw [iI_toInt (by omega), hsw]; rfl) (by decide) ?_
      refine lv_aload_n hx hb dX3_node_121 rfl (lv_at hl 0 rfl) ?_
      refine va_get (D := D) (ci := 3) (v := .ref a) (C := RX3) (T := TX3) (N := 10) hx hb hts iX3 hown hK.1 hP 0 rfl rfl 2 (by decide) (hts (.fieldLink RX3 28 "CloseClocks" "now" "LCloseClocks$Clocks;") (by decide +kernel)) (fun _ h9 => h9) rfl dX3_node_122 ?_
      refine lv_iload_n hx hb dX3_node_125 rfl (lv_at hl 1 rfl) ?_
      refine kx_top (b := ((z.toNat : Nat) : Int)) (by omega) ?_
      refine lv_aload_n hx hb dX3_node_126 rfl (lv_at hl 0 rfl) ?_
      refine va_get (D := D) (ci := 3) (v := .int (iI sp)) (C := RX3) (T := TX3) (N := 10) hx hb hts iX3 hown hK.1 hP 0 rfl rfl 6 (by decide) (hts (.fieldLink RX3 42 "CloseClocks" "step" "I") (by decide +kernel)) (fun _ h9 => h9) rfl dX3_node_127 ?_
      refine kx_cVW (As := [.int (iI ((z.toNat : Nat) : Int)), .int (iI sp)]) (rest := []) (wr := [(x, .inr (3, [.ref p, .ref n, .ref a, .ref k, .ref t, .int (iI ik), .int (iI sp), .int (iI bo), .int (iI nr), .int (iI te9)])), (p, .inr (2, [.ref p1, .int (iI le)])), (p1, aI cI 61 te), (k, .inr (0, [.ref n, .ref k1, .ref k2, .ref k3, .ref k4, .ref k5, .ref k6, .int (iI tik), .int (iI grk), .int (iI ahk), .int (iI bek)])), (k1, aI cI 24 pak), (k2, aI cI 6 rak), (k3, aI cI 6 fak), (k4, aI cI 6 ftk), (k5, aI cI 36 dyk), (k6, aI cI 36 erk), (t, .inr (0, [.ref n, .ref t1, .ref t2, .ref t3, .ref t4, .ref t5, .ref t6, .int (iI tit), .int (iI grt), .int (iI aht), .int (iI bet)])), (t1, aI cI 24 pat), (t2, aI cI 6 rat), (t3, aI cI 6 fat), (t4, aI cI 6 ftt), (t5, aI cI 36 dyt), (t6, aI cI 36 ert)]) (q0 := 0) (ci := 0) ⟨hx, hb, hml, hown, hts⟩ (c_X0_leastUp l D cI cZ a a1 a2 a3 a4 a5 a6 n n1 n2 n3 pa ra fa ft dy er ti gr ah be no li dg nb wy (z.toNat) sp (by first | assumption | omega) (by first | assumption | omega) (by first | assumption | omega) (by first | assumption | omega) (by first | assumption | omega) (by first | assumption | omega) (by first | assumption | omega)) (cwV 2 hts gX3_node_X0_leastUp rfl rfl rfl (by decide +kernel) ⟨Nat.le_of_ble_eq_true rfl, Nat.le_of_ble_eq_true rfl⟩) hK hP hD hS hA [7, 8, 9, 10, 11, 12, 13, 3, 4, 5, 6] [0, 1, 2, 14, 15, 16, 17, 18, 19, 20, 21, 22, 23, 24, 25, 26, 27] rfl rfl (by decide) (by decide) (by decide) rfl rfl rfl hl.1 rfl (Nat.le_of_ble_eq_true rfl) dX3_node_130 ⟨Nat.le_of_ble_eq_true rfl, Nat.le_of_ble_eq_true rfl⟩ (fun u H locs hq hP hD hS => ?_)
      have hP : va_P D vwCl (xW cI cZ x p p1 n n1 n2 n3 a a1 a2 a3 a4 a5 a6 k k1 k2 k3 k4 k5 k6 t t1 t2 t3 t4 t5 t6 le te no li dg nb wy pa ra fa ft dy er ti gr (xAh pa dy er dg nb (z.toNat)) (xBe pa dy er dg nb (z.toNat)) pak rak fak ftk dyk erk tik grk ahk bek pat rat fat ftt dyt ert tit grt aht bet ik sp bo nr te9) H := hP.sub [0, 1, 2, 24, 25, 26, 27, 17, 18, 19, 20, 21, 22, 23, 3, 4, 5, 6, 7, 8, 9, 10, 11, 12, 13, 14, 15, 16] rfl
      have hD : va_D A (xW cI cZ x p p1 n n1 n2 n3 a a1 a2 a3 a4 a5 a6 k k1 k2 k3 k4 k5 k6 t t1 t2 t3 t4 t5 t6 le te no li dg nb wy pa ra fa ft dy er ti gr (xAh pa dy er dg nb (z.toNat)) (xBe pa dy er dg nb (z.toNat)) pak rak fak ftk dyk erk tik grk ahk bek pat rat fat ftt dyt ert tit grt aht bet ik sp bo nr te9) := hD.sub [0, 1, 2, 24, 25, 26, 27, 17, 18, 19, 20, 21, 22, 23, 3, 4, 5, 6, 7, 8, 9, 10, 11, 12, 13, 14, 15, 16] (by decide) rfl
      refine W.eq (g2 := F0 mi 133 ls [.int (iI (xUp (xAh pa dy er dg nb (z.toNat)) (xBe pa dy er dg nb (z.toNat)) sp))]) rfl ?_
      refine kx_top (b := (xNo pa ra fa ft dy er dg nb no sp z q)) (by unfold xNo; (repeat' split) <;> first | rfl | omega | contradiction) ?_
      exact hret ((xAh pa dy er dg nb (z.toNat)), (xBe pa dy er dg nb (z.toNat))) H locs _ _ (trivial) hP hD hS dX3_node_133
    · skip
      refine lv_tableIn (tgt := 134) hx hb dX3_node_15 (by rw [iI_toInt (by omega)]; omega) (by rw [iI_toInt (by omega)]; omega) (by rw [iI_toInt (by omega), hsw]; rfl) (by decide) ?_
      refine lv_aload_n hx hb dX3_node_134 rfl (lv_at hl 0 rfl) ?_
      refine va_get (D := D) (ci := 3) (v := .ref a) (C := RX3) (T := TX3) (N := 10) hx hb hts iX3 hown hK.1 hP 0 rfl rfl 2 (by decide) (hts (.fieldLink RX3 28 "CloseClocks" "now" "LCloseClocks$Clocks;") (by decide +kernel)) (fun _ h9 => h9) rfl dX3_node_135 ?_
      refine lv_iload_n hx hb dX3_node_138 rfl (lv_at hl 1 rfl) ?_
      refine kx_top (b := ((z.toNat : Nat) : Int)) (by omega) ?_
      refine lv_aload_n hx hb dX3_node_139 rfl (lv_at hl 0 rfl) ?_
      refine va_get (D := D) (ci := 3) (v := .int (iI sp)) (C := RX3) (T := TX3) (N := 10) hx hb hts iX3 hown hK.1 hP 0 rfl rfl 6 (by decide) (hts (.fieldLink RX3 42 "CloseClocks" "step" "I") (by decide +kernel)) (fun _ h9 => h9) rfl dX3_node_140 ?_
      refine kx_cVW (As := [.int (iI ((z.toNat : Nat) : Int)), .int (iI sp)]) (rest := []) (wr := [(x, .inr (3, [.ref p, .ref n, .ref a, .ref k, .ref t, .int (iI ik), .int (iI sp), .int (iI bo), .int (iI nr), .int (iI te9)])), (p, .inr (2, [.ref p1, .int (iI le)])), (p1, aI cI 61 te), (k, .inr (0, [.ref n, .ref k1, .ref k2, .ref k3, .ref k4, .ref k5, .ref k6, .int (iI tik), .int (iI grk), .int (iI ahk), .int (iI bek)])), (k1, aI cI 24 pak), (k2, aI cI 6 rak), (k3, aI cI 6 fak), (k4, aI cI 6 ftk), (k5, aI cI 36 dyk), (k6, aI cI 36 erk), (t, .inr (0, [.ref n, .ref t1, .ref t2, .ref t3, .ref t4, .ref t5, .ref t6, .int (iI tit), .int (iI grt), .int (iI aht), .int (iI bet)])), (t1, aI cI 24 pat), (t2, aI cI 6 rat), (t3, aI cI 6 fat), (t4, aI cI 6 ftt), (t5, aI cI 36 dyt), (t6, aI cI 36 ert)]) (q0 := 0) (ci := 0) ⟨hx, hb, hml, hown, hts⟩ (c_X0_leastDown l D cI cZ a a1 a2 a3 a4 a5 a6 n n1 n2 n3 pa ra fa ft dy er ti gr ah be no li dg nb wy (z.toNat) sp (by first | assumption | omega) (by first | assumption | omega) (by first | assumption | omega) (by first | assumption | omega) (by first | assumption | omega) (by first | assumption | omega) (by first | assumption | omega)) (cwV 2 hts gX3_node_X0_leastDown rfl rfl rfl (by decide +kernel) ⟨Nat.le_of_ble_eq_true rfl, Nat.le_of_ble_eq_true rfl⟩) hK hP hD hS hA [7, 8, 9, 10, 11, 12, 13, 3, 4, 5, 6] [0, 1, 2, 14, 15, 16, 17, 18, 19, 20, 21, 22, 23, 24, 25, 26, 27] rfl rfl (by decide) (by decide) (by decide) rfl rfl rfl hl.1 rfl (Nat.le_of_ble_eq_true rfl) dX3_node_143 ⟨Nat.le_of_ble_eq_true rfl, Nat.le_of_ble_eq_true rfl⟩ (fun u H locs hq hP hD hS => ?_)
      have hP : va_P D vwCl (xW cI cZ x p p1 n n1 n2 n3 a a1 a2 a3 a4 a5 a6 k k1 k2 k3 k4 k5 k6 t t1 t2 t3 t4 t5 t6 le te no li dg nb wy pa ra fa ft dy er ti gr (xAh pa dy er dg nb (z.toNat)) (xBe pa dy er dg nb (z.toNat)) pak rak fak ftk dyk erk tik grk ahk bek pat rat fat ftt dyt ert tit grt aht bet ik sp bo nr te9) H := hP.sub [0, 1, 2, 24, 25, 26, 27, 17, 18, 19, 20, 21, 22, 23, 3, 4, 5, 6, 7, 8, 9, 10, 11, 12, 13, 14, 15, 16] rfl
      have hD : va_D A (xW cI cZ x p p1 n n1 n2 n3 a a1 a2 a3 a4 a5 a6 k k1 k2 k3 k4 k5 k6 t t1 t2 t3 t4 t5 t6 le te no li dg nb wy pa ra fa ft dy er ti gr (xAh pa dy er dg nb (z.toNat)) (xBe pa dy er dg nb (z.toNat)) pak rak fak ftk dyk erk tik grk ahk bek pat rat fat ftt dyt ert tit grt aht bet ik sp bo nr te9) := hD.sub [0, 1, 2, 24, 25, 26, 27, 17, 18, 19, 20, 21, 22, 23, 3, 4, 5, 6, 7, 8, 9, 10, 11, 12, 13, 14, 15, 16] (by decide) rfl
      refine W.eq (g2 := F0 mi 146 ls [.int (iI (xDn (xAh pa dy er dg nb (z.toNat)) (xBe pa dy er dg nb (z.toNat)) sp))]) rfl ?_
      refine kx_top (b := (xNo pa ra fa ft dy er dg nb no sp z q)) (by unfold xNo; (repeat' split) <;> first | rfl | omega | contradiction) ?_
      exact hret ((xAh pa dy er dg nb (z.toNat)), (xBe pa dy er dg nb (z.toNat))) H locs _ _ (trivial) hP hD hS dX3_node_146
    · skip
      refine lv_tableIn (tgt := 147) hx hb dX3_node_15 (by rw [iI_toInt (by omega)]; omega) (by rw [iI_toInt (by omega)]; omega) (by rw [iI_toInt (by omega), hsw]; rfl) (by decide) ?_
      refine lv_aload_n hx hb dX3_node_147 rfl (lv_at hl 0 rfl) ?_
      refine va_get (D := D) (ci := 3) (v := .ref a) (C := RX3) (T := TX3) (N := 10) hx hb hts iX3 hown hK.1 hP 0 rfl rfl 2 (by decide) (hts (.fieldLink RX3 28 "CloseClocks" "now" "LCloseClocks$Clocks;") (by decide +kernel)) (fun _ h9 => h9) rfl dX3_node_148 ?_
      refine va_getN (D := D) (ci := 0) (v := .ref a4) (C := RX0) (T := TX0) (N := 11) hx hb hts iX0 hown hK.1 hP 7 rfl rfl 4 (by decide) (va_Nw.use rfl (hK.2.1 (RX3, 151, RX0, "fastTicks", "[I") (List.mem_of_getElem? (i := 9) rfl))) (fun _ h9 => h9) rfl dX3_node_151 ?_
      refine lv_iload_n hx hb dX3_node_154 rfl (lv_at hl 1 rfl) ?_
      refine kx_iald (k := z.toNat) hx hb hK hP 11 rfl (by omega) (by omega) (by decide) dX3_node_155 ?_
      refine kx_top (b := (xNo pa ra fa ft dy er dg nb no sp z q)) (by unfold xNo; (repeat' split) <;> first | rfl | omega | contradiction) ?_
      exact hret (ah, be) H locs _ _ (trivial) hP hD hS dX3_node_156
  · skip
    refine kx_ldc (z := -100000002) hx hb hown (hts (.constant RX3 90 (-100000002)) (by decide +kernel)) dX3_node_11 (by decide) ?_
    refine kx_top (b := (xNo pa ra fa ft dy er dg nb no sp z q)) (by unfold xNo; (repeat' split) <;> first | rfl | omega | contradiction) ?_
    exact hret (ah, be) H locs _ _ (trivial) hP hD hS dX3_node_13
def rm_X3_link : Room := ({ frames := 2, cells := 0, slots := 0, locals := 45 } : Room)
set_option maxHeartbeats 4000000 in
set_option maxRecDepth 100000 in
theorem c_X3_link (l : Launch) (D : va_G) (cI cZ : ClassId) (x p p1 n n1 n2 n3 a a1 a2 a3 a4 a5 a6 k k1 k2 k3 k4 k5 k6 t t1 t2 t3 t4 t5 t6 : Nat) (le : Int) (te : Nat → Int) (no li : Int) (dg nb wy pa ra fa ft dy er : Nat → Int) (ti gr ah be : Int) (pak rak fak ftk dyk erk : Nat → Int) (tik grk ahk bek : Int) (pat rat fat ftt dyt ert : Nat → Int) (tit grt aht bet ik sp bo nr te9 : Int) (z w q : Int) (hno : 0 ≤ no ∧ no ≤ 6) (hwy : ∀ k : Nat, k < 36 → 0 ≤ wy k ∧ wy k ≤ 1000) (hpa : ∀ k : Nat, k < 24 → 0 ≤ pa k ∧ pa k ≤ 50000000) (hdy : ∀ k : Nat, k < 36 → 0 ≤ dy k ∧ dy k ≤ 3) (her : ∀ k : Nat, k < 36 → -9 ≤ er k ∧ er k ≤ 9) (hz : -2147483648 ≤ z ∧ z < 2147483648) (hw : -2147483648 ≤ w ∧ w < 2147483648) (hq : -2147483648 ≤ q ∧ q < 2147483648) : kRO l yX3_link wsX3_link rm_X3_link D cI cZ [.ref x, .int (iI z), .int (iI w), .int (iI q)] (xW cI cZ x p p1 n n1 n2 n3 a a1 a2 a3 a4 a5 a6 k k1 k2 k3 k4 k5 k6 t t1 t2 t3 t4 t5 t6 le te no li dg nb wy pa ra fa ft dy er ti gr ah be pak rak fak ftk dyk erk tik grk ahk bek pat rat fat ftt dyt ert tit grt aht bet ik sp bo nr te9) (some (.int (iI (xLk pa dy er wy no z w q)))) := by
  refine kx_ROi (cc := cX3_link) (maxL := 4) (by decide) rfl (Nat.le_of_ble_eq_true rfl) ?_
  intro pr en s mi args below meth co Q hx hb hml hown hts hK hP hret ls hl
  have hown : s.vm.findClass RX3 = some mi.cls := hown
  have iX3 : ∀ w ∈ wsX30, w ∈ wsX3_link := by decide +kernel
  have iX0 : ∀ w ∈ wsX00, w ∈ wsX3_link := by decide +kernel
  have hl : lv_has ls 4 [(0, .ref x), (1, .int (iI z)), (2, .int (iI w)), (3, .int (iI q))] := hl
  refine lv_aload_n hx hb dX3_link_0 rfl (lv_at hl 0 rfl) ?_
  refine va_get (D := D) (ci := 3) (v := .ref n) (C := RX3) (T := TX3) (N := 10) hx hb hts iX3 hown hK.1 hP 0 rfl rfl 1 (by decide) (hts (.fieldLink RX3 19 "CloseClocks" "shape" "LCloseClocks$Net;") (by decide +kernel)) (fun _ h9 => h9) rfl dX3_link_1 ?_
  refine lv_iload_n hx hb dX3_link_4 rfl (lv_at hl 1 rfl) ?_
  refine lv_iload_n hx hb dX3_link_5 rfl (lv_at hl 2 rfl) ?_
  refine kx_cV (As := [.int (iI z), .int (iI w)]) (rest := []) (st1 := [.int (iI (if ((0 ≤ z ∧ z < no) ∧ (0 ≤ w ∧ w < no) ∧ wy ((z * 6 + w).toNat) = 1) then 1 else 0))]) (q0 := 0) (ci := 1) ⟨hx, hb, hml, hown, hts⟩ (c_X1_hasLink l D cI cZ n n1 n2 n3 no li dg nb wy z w (by first | assumption | omega) (by first | assumption | omega) (by first | assumption | omega) (by first | assumption | omega)) (cwV 2 hts gX3_link_X1_hasLink rfl rfl rfl (by decide +kernel) ⟨Nat.le_of_ble_eq_true rfl, Nat.le_of_ble_eq_true rfl⟩) hK (hP.sub (ws' := ntW cI cZ n n1 n2 n3 no li dg nb wy) [3, 4, 5, 6] rfl) rfl rfl rfl hl.1 rfl (Nat.le_of_ble_eq_true rfl) dX3_link_6 ⟨Nat.zero_le _, Nat.zero_le _⟩ rfl ?_
  refine kx_if_neB (tgt := 15) hx hb dX3_link_9 (by decide) (fun h9 => ?_) (fun h9 => ?_)
  · skip
    replace h9 := xHL_iff.mpr h9
    have hb9 := xHL_iff.mp h9
    refine lv_iload_n hx hb dX3_link_15 rfl (lv_at hl 3 rfl) ?_
    rcases (show (q < 0 ∨ 3 < q) ∨ q = 0 ∨ q = 1 ∨ q = 2 ∨ q = 3 by omega) with hsw | hsw | hsw | hsw | hsw
    · skip
      refine lv_tableOut (tgt := 96) hx hb dX3_link_16 (by rw [iI_toInt (by omega)]; omega) (by decide) ?_
      refine kx_ldc (z := -100000003) hx hb hown (hts (.constant RX3 55 (-100000003)) (by decide +kernel)) dX3_link_96 (by decide) ?_
      refine kx_top (b := (xLk pa dy er wy no z w q)) (by unfold xLk; (repeat' split) <;> first | rfl | omega | contradiction) ?_
      exact hret _ _ dX3_link_98
    · skip
      refine lv_tableIn (tgt := 48) hx hb dX3_link_16 (by rw [iI_toInt (by omega)]; omega) (by rw [iI_toInt (by omega)]; omega) (by rw [iI_toInt (by omega), hsw]; rfl) (by decide) ?_
      refine lv_aload_n hx hb dX3_link_48 rfl (lv_at hl 0 rfl) ?_
      refine va_get (D := D) (ci := 3) (v := .ref a) (C := RX3) (T := TX3) (N := 10) hx hb hts iX3 hown hK.1 hP 0 rfl rfl 2 (by decide) (hts (.fieldLink RX3 28 "CloseClocks" "now" "LCloseClocks$Clocks;") (by decide +kernel)) (fun _ h9 => h9) rfl dX3_link_49 ?_
      refine va_getN (D := D) (ci := 0) (v := .ref a5) (C := RX0) (T := TX0) (N := 11) hx hb hts iX0 hown hK.1 hP 7 rfl rfl 5 (by decide) (va_Nw.use rfl (hK.2.1 (RX3, 114, RX0, "delays", "[I") (List.mem_of_getElem? (i := 10) rfl))) (fun _ h9 => h9) rfl dX3_link_52 ?_
      refine lv_iload_n hx hb dX3_link_55 rfl (lv_at hl 1 rfl) ?_
      refine lv_iload_n hx hb dX3_link_56 rfl (lv_at hl 2 rfl) ?_
      refine kx_cS (As := [.int (iI z), .int (iI w)]) (rest := [.ref a5]) (st1 := [.int (iI ((z * 6) + w)), .ref a5]) ⟨hx, hb, hml, hown, hts⟩ (c_X3_cell l D cI cZ z w ) (va_cwS 2 hts gX3_link_X3_cell rfl rfl rfl (by decide +kernel) ⟨Nat.le_of_ble_eq_true rfl, Nat.le_of_ble_eq_true rfl⟩) hK (hP.sub (ws' := []) [] rfl) rfl hl.1 rfl (Nat.le_of_ble_eq_true rfl) dX3_link_57 ⟨Nat.zero_le _, Nat.zero_le _⟩ rfl ?_
      refine kx_iald (k := ((z * 6 + w).toNat)) hx hb hK hP 12 rfl (by omega) (by omega) (by decide) dX3_link_60 ?_
      refine kx_top (b := (xLk pa dy er wy no z w q)) (by unfold xLk; (repeat' split) <;> first | rfl | omega | contradiction) ?_
      exact hret _ _ dX3_link_61
    · skip
      refine lv_tableIn (tgt := 62) hx hb dX3_link_16 (by rw [iI_toInt (by omega)]; omega) (by rw [iI_toInt (by omega)]; omega) (by rw [iI_toInt (by omega), hsw]; rfl) (by decide) ?_
      refine lv_aload_n hx hb dX3_link_62 rfl (lv_at hl 0 rfl) ?_
      refine va_get (D := D) (ci := 3) (v := .ref a) (C := RX3) (T := TX3) (N := 10) hx hb hts iX3 hown hK.1 hP 0 rfl rfl 2 (by decide) (hts (.fieldLink RX3 28 "CloseClocks" "now" "LCloseClocks$Clocks;") (by decide +kernel)) (fun _ h9 => h9) rfl dX3_link_63 ?_
      refine va_getN (D := D) (ci := 0) (v := .ref a6) (C := RX0) (T := TX0) (N := 11) hx hb hts iX0 hown hK.1 hP 7 rfl rfl 6 (by decide) (va_Nw.use rfl (hK.2.1 (RX3, 107, RX0, "errors", "[I") (List.mem_of_getElem? (i := 11) rfl))) (fun _ h9 => h9) rfl dX3_link_66 ?_
      refine lv_iload_n hx hb dX3_link_69 rfl (lv_at hl 1 rfl) ?_
      refine lv_iload_n hx hb dX3_link_70 rfl (lv_at hl 2 rfl) ?_
      refine kx_cS (As := [.int (iI z), .int (iI w)]) (rest := [.ref a6]) (st1 := [.int (iI ((z * 6) + w)), .ref a6]) ⟨hx, hb, hml, hown, hts⟩ (c_X3_cell l D cI cZ z w ) (va_cwS 2 hts gX3_link_X3_cell rfl rfl rfl (by decide +kernel) ⟨Nat.le_of_ble_eq_true rfl, Nat.le_of_ble_eq_true rfl⟩) hK (hP.sub (ws' := []) [] rfl) rfl hl.1 rfl (Nat.le_of_ble_eq_true rfl) dX3_link_71 ⟨Nat.zero_le _, Nat.zero_le _⟩ rfl ?_
      refine kx_iald (k := ((z * 6 + w).toNat)) hx hb hK hP 13 rfl (by omega) (by omega) (by decide) dX3_link_74 ?_
      refine kx_top (b := (xLk pa dy er wy no z w q)) (by unfold xLk; (repeat' split) <;> first | rfl | omega | contradiction) ?_
      exact hret _ _ dX3_link_75
    · skip
      refine lv_tableIn (tgt := 76) hx hb dX3_link_16 (by rw [iI_toInt (by omega)]; omega) (by rw [iI_toInt (by omega)]; omega) (by rw [iI_toInt (by omega), hsw]; rfl) (by decide) ?_
      refine lv_aload_n hx hb dX3_link_76 rfl (lv_at hl 0 rfl) ?_
      refine va_get (D := D) (ci := 3) (v := .ref a) (C := RX3) (T := TX3) (N := 10) hx hb hts iX3 hown hK.1 hP 0 rfl rfl 2 (by decide) (hts (.fieldLink RX3 28 "CloseClocks" "now" "LCloseClocks$Clocks;") (by decide +kernel)) (fun _ h9 => h9) rfl dX3_link_77 ?_
      refine lv_iload_n hx hb dX3_link_80 rfl (lv_at hl 1 rfl) ?_
      refine kx_top (b := ((z.toNat : Nat) : Int)) (by omega) ?_
      refine lv_iload_n hx hb dX3_link_81 rfl (lv_at hl 2 rfl) ?_
      refine kx_top (b := ((w.toNat : Nat) : Int)) (by omega) ?_
      refine kx_cV (As := [.int (iI ((z.toNat : Nat) : Int)), .int (iI ((w.toNat : Nat) : Int))]) (rest := []) (st1 := [.int (iI (xG pa dy er (z.toNat) (w.toNat)))]) (q0 := 0) (ci := 0) ⟨hx, hb, hml, hown, hts⟩ (c_X0_guess l D cI cZ a a1 a2 a3 a4 a5 a6 n n1 n2 n3 pa ra fa ft dy er ti gr ah be no li dg nb wy (z.toNat) (w.toNat) (by first | assumption | omega) (by first | assumption | omega) (hdy _ (by omega))) (cwV 2 hts gX3_link_X0_guess rfl rfl rfl (by decide +kernel) ⟨Nat.le_of_ble_eq_true rfl, Nat.le_of_ble_eq_true rfl⟩) hK (hP.sub (ws' := ckW cI cZ a a1 a2 a3 a4 a5 a6 n n1 n2 n3 pa ra fa ft dy er ti gr ah be no li dg nb wy) [7, 8, 9, 10, 11, 12, 13, 3, 4, 5, 6] rfl) rfl rfl rfl hl.1 rfl (Nat.le_of_ble_eq_true rfl) dX3_link_82 ⟨Nat.zero_le _, Nat.zero_le _⟩ rfl ?_
      refine kx_top (b := (xLk pa dy er wy no z w q)) (by unfold xLk; (repeat' split) <;> first | rfl | omega | contradiction) ?_
      exact hret _ _ dX3_link_85
    · skip
      refine lv_tableIn (tgt := 86) hx hb dX3_link_16 (by rw [iI_toInt (by omega)]; omega) (by rw [iI_toInt (by omega)]; omega) (by rw [iI_toInt (by omega), hsw]; rfl) (by decide) ?_
      refine lv_aload_n hx hb dX3_link_86 rfl (lv_at hl 0 rfl) ?_
      refine va_get (D := D) (ci := 3) (v := .ref a) (C := RX3) (T := TX3) (N := 10) hx hb hts iX3 hown hK.1 hP 0 rfl rfl 2 (by decide) (hts (.fieldLink RX3 28 "CloseClocks" "now" "LCloseClocks$Clocks;") (by decide +kernel)) (fun _ h9 => h9) rfl dX3_link_87 ?_
      refine lv_iload_n hx hb dX3_link_90 rfl (lv_at hl 1 rfl) ?_
      refine kx_top (b := ((z.toNat : Nat) : Int)) (by omega) ?_
      refine lv_iload_n hx hb dX3_link_91 rfl (lv_at hl 2 rfl) ?_
      refine kx_top (b := ((w.toNat : Nat) : Int)) (by omega) ?_
      refine kx_cV (As := [.int (iI ((z.toNat : Nat) : Int)), .int (iI ((w.toNat : Nat) : Int))]) (rest := []) (st1 := [.int (iI (xSk pa (z.toNat) (w.toNat)))]) (q0 := 0) (ci := 0) ⟨hx, hb, hml, hown, hts⟩ (c_X0_skewOf l D cI cZ a a1 a2 a3 a4 a5 a6 n n1 n2 n3 pa ra fa ft dy er ti gr ah be no li dg nb wy (z.toNat) (w.toNat) (by first | assumption | omega) (by first | assumption | omega) (by first | assumption | omega)) (cwV 2 hts gX3_link_X0_skewOf rfl rfl rfl (by decide +kernel) ⟨Nat.le_of_ble_eq_true rfl, Nat.le_of_ble_eq_true rfl⟩) hK (hP.sub (ws' := ckW cI cZ a a1 a2 a3 a4 a5 a6 n n1 n2 n3 pa ra fa ft dy er ti gr ah be no li dg nb wy) [7, 8, 9, 10, 11, 12, 13, 3, 4, 5, 6] rfl) rfl rfl rfl hl.1 rfl (Nat.le_of_ble_eq_true rfl) dX3_link_92 ⟨Nat.zero_le _, Nat.zero_le _⟩ rfl ?_
      refine kx_top (b := (xLk pa dy er wy no z w q)) (by unfold xLk; (repeat' split) <;> first | rfl | omega | contradiction) ?_
      exact hret _ _ dX3_link_95
  · skip
    replace h9 := mt xHL_iff.mp h9
    refine kx_ldc (z := -100000002) hx hb hown (hts (.constant RX3 90 (-100000002)) (by decide +kernel)) dX3_link_12 (by decide) ?_
    refine kx_top (b := (xLk pa dy er wy no z w q)) (by unfold xLk; (repeat' split) <;> first | rfl | omega | contradiction) ?_
    exact hret _ _ dX3_link_14
def rm_X3_hops : Room := ({ frames := 2, cells := 0, slots := 0, locals := 44 } : Room)
set_option maxHeartbeats 4000000 in
set_option maxRecDepth 100000 in
theorem c_X3_hops (l : Launch) (D : va_G) (cI cZ : ClassId) (x p p1 n n1 n2 n3 a a1 a2 a3 a4 a5 a6 k k1 k2 k3 k4 k5 k6 t t1 t2 t3 t4 t5 t6 : Nat) (le : Int) (te : Nat → Int) (no li : Int) (dg nb wy pa ra fa ft dy er : Nat → Int) (ti gr ah be : Int) (pak rak fak ftk dyk erk : Nat → Int) (tik grk ahk bek : Int) (pat rat fat ftt dyt ert : Nat → Int) (tit grt aht bet ik sp bo nr te9 : Int) (z w : Int) (hno : 0 ≤ no ∧ no ≤ 6) (hwy : ∀ k : Nat, k < 36 → 0 ≤ wy k ∧ wy k ≤ 1000) (hz : -2147483648 ≤ z ∧ z < 2147483648) (hw : -2147483648 ≤ w ∧ w < 2147483648) : kRO l yX3_hops wsX3_hops rm_X3_hops D cI cZ [.ref x, .int (iI z), .int (iI w)] (xW cI cZ x p p1 n n1 n2 n3 a a1 a2 a3 a4 a5 a6 k k1 k2 k3 k4 k5 k6 t t1 t2 t3 t4 t5 t6 le te no li dg nb wy pa ra fa ft dy er ti gr ah be pak rak fak ftk dyk erk tik grk ahk bek pat rat fat ftt dyt ert tit grt aht bet ik sp bo nr te9) (some (.int (iI (if (0 ≤ z ∧ z < no) ∧ (0 ≤ w ∧ w < no) then xHo wy z.toNat w.toNat else -100000002)))) := by
  refine kx_ROi (cc := cX3_hops) (maxL := 3) (by decide) rfl (Nat.le_of_ble_eq_true rfl) ?_
  intro pr en s mi args below meth co Q hx hb hml hown hts hK hP hret ls hl
  have hown : s.vm.findClass RX3 = some mi.cls := hown
  have iX3 : ∀ w ∈ wsX30, w ∈ wsX3_hops := by decide +kernel
  have hl : lv_has ls 3 [(0, .ref x), (1, .int (iI z)), (2, .int (iI w))] := hl
  refine lv_aload_n hx hb dX3_hops_0 rfl (lv_at hl 0 rfl) ?_
  refine va_get (D := D) (ci := 3) (v := .ref n) (C := RX3) (T := TX3) (N := 10) hx hb hts iX3 hown hK.1 hP 0 rfl rfl 1 (by decide) (hts (.fieldLink RX3 19 "CloseClocks" "shape" "LCloseClocks$Net;") (by decide +kernel)) (fun _ h9 => h9) rfl dX3_hops_1 ?_
  refine lv_iload_n hx hb dX3_hops_4 rfl (lv_at hl 1 rfl) ?_
  refine kx_cV (As := [.int (iI z)]) (rest := []) (st1 := [.int (iI (if (0 ≤ z ∧ z < no) then 1 else 0))]) (q0 := 0) (ci := 1) ⟨hx, hb, hml, hown, hts⟩ (c_X1_hasNode l D cI cZ n n1 n2 n3 no li dg nb wy z (by first | assumption | omega) (by first | assumption | omega)) (cwV 1 hts gX3_hops_X1_hasNode rfl rfl rfl (by decide +kernel) ⟨Nat.le_of_ble_eq_true rfl, Nat.le_of_ble_eq_true rfl⟩) hK (hP.sub (ws' := ntW cI cZ n n1 n2 n3 no li dg nb wy) [3, 4, 5, 6] rfl) rfl rfl rfl hl.1 rfl (Nat.le_of_ble_eq_true rfl) dX3_hops_5 ⟨Nat.zero_le _, Nat.zero_le _⟩ rfl ?_
  refine kx_if_eqB (tgt := 22) hx hb dX3_hops_8 (by decide) (fun h8 => ?_) (fun h8 => ?_)
  · skip
    refine kx_ldc (z := -100000002) hx hb hown (hts (.constant RX3 90 (-100000002)) (by decide +kernel)) dX3_hops_22 (by decide) ?_
    refine kx_top (b := (if (0 ≤ z ∧ z < no) ∧ (0 ≤ w ∧ w < no) then xHo wy z.toNat w.toNat else -100000002)) (by unfold xHo; (repeat' split) <;> first | rfl | omega) ?_
    exact hret _ _ dX3_hops_24
  · skip
    refine lv_aload_n hx hb dX3_hops_11 rfl (lv_at hl 0 rfl) ?_
    refine va_get (D := D) (ci := 3) (v := .ref n) (C := RX3) (T := TX3) (N := 10) hx hb hts iX3 hown hK.1 hP 0 rfl rfl 1 (by decide) (hts (.fieldLink RX3 19 "CloseClocks" "shape" "LCloseClocks$Net;") (by decide +kernel)) (fun _ h9 => h9) rfl dX3_hops_12 ?_
    refine lv_iload_n hx hb dX3_hops_15 rfl (lv_at hl 2 rfl) ?_
    refine kx_cV (As := [.int (iI w)]) (rest := []) (st1 := [.int (iI (if (0 ≤ w ∧ w < no) then 1 else 0))]) (q0 := 0) (ci := 1) ⟨hx, hb, hml, hown, hts⟩ (c_X1_hasNode l D cI cZ n n1 n2 n3 no li dg nb wy w (by first | assumption | omega) (by first | assumption | omega)) (cwV 1 hts gX3_hops_X1_hasNode rfl rfl rfl (by decide +kernel) ⟨Nat.le_of_ble_eq_true rfl, Nat.le_of_ble_eq_true rfl⟩) hK (hP.sub (ws' := ntW cI cZ n n1 n2 n3 no li dg nb wy) [3, 4, 5, 6] rfl) rfl rfl rfl hl.1 rfl (Nat.le_of_ble_eq_true rfl) dX3_hops_16 ⟨Nat.zero_le _, Nat.zero_le _⟩ rfl ?_
    refine kx_if_neB (tgt := 25) hx hb dX3_hops_19 (by decide) (fun h19 => ?_) (fun h19 => ?_)
    · skip
      refine lv_aload_n hx hb dX3_hops_25 rfl (lv_at hl 0 rfl) ?_
      refine va_get (D := D) (ci := 3) (v := .ref n) (C := RX3) (T := TX3) (N := 10) hx hb hts iX3 hown hK.1 hP 0 rfl rfl 1 (by decide) (hts (.fieldLink RX3 19 "CloseClocks" "shape" "LCloseClocks$Net;") (by decide +kernel)) (fun _ h9 => h9) rfl dX3_hops_26 ?_
      refine lv_iload_n hx hb dX3_hops_29 rfl (lv_at hl 1 rfl) ?_
      refine kx_top (b := ((z.toNat : Nat) : Int)) (by omega) ?_
      refine lv_iload_n hx hb dX3_hops_30 rfl (lv_at hl 2 rfl) ?_
      refine kx_top (b := ((w.toNat : Nat) : Int)) (by omega) ?_
      refine kx_cV (As := [.int (iI ((z.toNat : Nat) : Int)), .int (iI ((w.toNat : Nat) : Int))]) (rest := []) (st1 := [.int (iI (if wy ((z.toNat) * 6 + (w.toNat)) < 1000 then wy ((z.toNat) * 6 + (w.toNat)) else (-100000001)))]) (q0 := 0) (ci := 1) ⟨hx, hb, hml, hown, hts⟩ (c_X1_hopsOf l D cI cZ n n1 n2 n3 no li dg nb wy (z.toNat) (w.toNat) (by first | assumption | omega) (by first | assumption | omega) (by first | assumption | omega)) (cwV 2 hts gX3_hops_X1_hopsOf rfl rfl rfl (by decide +kernel) ⟨Nat.le_of_ble_eq_true rfl, Nat.le_of_ble_eq_true rfl⟩) hK (hP.sub (ws' := ntW cI cZ n n1 n2 n3 no li dg nb wy) [3, 4, 5, 6] rfl) rfl rfl rfl hl.1 rfl (Nat.le_of_ble_eq_true rfl) dX3_hops_31 ⟨Nat.zero_le _, Nat.zero_le _⟩ rfl ?_
      refine kx_top (b := (if (0 ≤ z ∧ z < no) ∧ (0 ≤ w ∧ w < no) then xHo wy z.toNat w.toNat else -100000002)) (by unfold xHo; (repeat' split) <;> first | rfl | omega) ?_
      exact hret _ _ dX3_hops_34
    · skip
      refine kx_ldc (z := -100000002) hx hb hown (hts (.constant RX3 90 (-100000002)) (by decide +kernel)) dX3_hops_22 (by decide) ?_
      refine kx_top (b := (if (0 ≤ z ∧ z < no) ∧ (0 ≤ w ∧ w < no) then xHo wy z.toNat w.toNat else -100000002)) (by unfold xHo; (repeat' split) <;> first | rfl | omega) ?_
      exact hret _ _ dX3_hops_24
def rm_X3_skew : Room := ({ frames := 4, cells := 0, slots := 0, locals := 88 } : Room)
set_option maxHeartbeats 4000000 in
set_option maxRecDepth 100000 in
theorem c_X3_skew (l : Launch) (D : va_G) (cI cZ : ClassId) (x p p1 n n1 n2 n3 a a1 a2 a3 a4 a5 a6 k k1 k2 k3 k4 k5 k6 t t1 t2 t3 t4 t5 t6 : Nat) (le : Int) (te : Nat → Int) (no li : Int) (dg nb wy pa ra fa ft dy er : Nat → Int) (ti gr ah be : Int) (pak rak fak ftk dyk erk : Nat → Int) (tik grk ahk bek : Int) (pat rat fat ftt dyt ert : Nat → Int) (tit grt aht bet ik sp bo nr te9 : Int) (z : Int) (hno : 0 ≤ no ∧ no ≤ 6) (hwy : ∀ k : Nat, k < 36 → 0 ≤ wy k ∧ wy k ≤ 1000) (hpa : ∀ k : Nat, k < 24 → 0 ≤ pa k ∧ pa k ≤ 50000000) (hsp : 1 ≤ sp ∧ sp ≤ 500) (hz : -2147483648 ≤ z ∧ z < 2147483648) : kRO l yX3_skew wsX3_skew rm_X3_skew D cI cZ [.ref x, .int (iI z)] (xW cI cZ x p p1 n n1 n2 n3 a a1 a2 a3 a4 a5 a6 k k1 k2 k3 k4 k5 k6 t t1 t2 t3 t4 t5 t6 le te no li dg nb wy pa ra fa ft dy er ti gr ah be pak rak fak ftk dyk erk tik grk ahk bek pat rat fat ftt dyt ert tit grt aht bet ik sp bo nr te9) (some (.int (iI (xSw pa wy no sp gr z)))) := by
  refine kx_ROi (cc := cX3_skew) (maxL := 2) (by decide) rfl (Nat.le_of_ble_eq_true rfl) ?_
  intro pr en s mi args below meth co Q hx hb hml hown hts hK hP hret ls hl
  have hown : s.vm.findClass RX3 = some mi.cls := hown
  have iX3 : ∀ w ∈ wsX30, w ∈ wsX3_skew := by decide +kernel
  have iX0 : ∀ w ∈ wsX00, w ∈ wsX3_skew := by decide +kernel
  have hl : lv_has ls 2 [(0, .ref x), (1, .int (iI z))] := hl
  have hls := xSp_rng (wy := wy) (z := 1) hpa hno
  refine lv_iload_n hx hb dX3_skew_0 rfl (lv_at hl 1 rfl) ?_
  refine kx_if_lt (tgt := 9) hx hb (by omega) dX3_skew_1 (by decide) (fun h1 => ?_) (fun h1 => ?_)
  · skip
    refine kx_ldc (z := -100000003) hx hb hown (hts (.constant RX3 55 (-100000003)) (by decide +kernel)) dX3_skew_9 (by decide) ?_
    refine kx_top (b := (xSw pa wy no sp gr z)) (by unfold xSw; (repeat' split) <;> first | rfl | omega | contradiction) ?_
    exact hret _ _ dX3_skew_11
  · skip
    refine lv_iload_n hx hb dX3_skew_4 rfl (lv_at hl 1 rfl) ?_
    refine kx_const (z := 3) hx hb dX3_skew_5 rfl ?_
    refine kx_icmp_le (tgt := 12) hx hb (by omega) (by omega) dX3_skew_6 (by decide) (fun h6 => ?_) (fun h6 => ?_)
    · skip
      refine lv_aload_n hx hb dX3_skew_12 rfl (lv_at hl 0 rfl) ?_
      refine va_get (D := D) (ci := 3) (v := .ref n) (C := RX3) (T := TX3) (N := 10) hx hb hts iX3 hown hK.1 hP 0 rfl rfl 1 (by decide) (hts (.fieldLink RX3 19 "CloseClocks" "shape" "LCloseClocks$Net;") (by decide +kernel)) (fun _ h9 => h9) rfl dX3_skew_13 ?_
      refine kx_cV (As := []) (rest := []) (st1 := [.int (iI (if (0 < no) then 1 else 0))]) (q0 := 0) (ci := 1) ⟨hx, hb, hml, hown, hts⟩ (c_X1_isRead l D cI cZ n n1 n2 n3 no li dg nb wy (by first | assumption | omega)) (cwV 0 hts gX3_skew_X1_isRead rfl rfl rfl (by decide +kernel) ⟨Nat.le_of_ble_eq_true rfl, Nat.le_of_ble_eq_true rfl⟩) hK (hP.sub (ws' := ntW cI cZ n n1 n2 n3 no li dg nb wy) [3, 4, 5, 6] rfl) rfl rfl rfl hl.1 rfl (Nat.le_of_ble_eq_true rfl) dX3_skew_16 ⟨Nat.zero_le _, Nat.zero_le _⟩ rfl ?_
      refine kx_if_neB (tgt := 25) hx hb dX3_skew_19 (by decide) (fun h19 => ?_) (fun h19 => ?_)
      · skip
        refine lv_iload_n hx hb dX3_skew_25 rfl (lv_at hl 1 rfl) ?_
        rcases (show (z < 0 ∨ 2 < z) ∨ z = 0 ∨ z = 1 ∨ z = 2 by omega) with hsw | hsw | hsw | hsw
        · skip
          refine lv_tableOut (tgt := 83) hx hb dX3_skew_26 (by rw [iI_toInt (by omega)]; omega) (by decide) ?_
          refine lv_aload_n hx hb dX3_skew_83 rfl (lv_at hl 0 rfl) ?_
          refine va_get (D := D) (ci := 3) (v := .ref a) (C := RX3) (T := TX3) (N := 10) hx hb hts iX3 hown hK.1 hP 0 rfl rfl 2 (by decide) (hts (.fieldLink RX3 28 "CloseClocks" "now" "LCloseClocks$Clocks;") (by decide +kernel)) (fun _ h9 => h9) rfl dX3_skew_84 ?_
          refine va_getN (D := D) (ci := 0) (v := .int (iI gr)) (C := RX0) (T := TX0) (N := 11) hx hb hts iX0 hown hK.1 hP 7 rfl rfl 8 (by decide) (va_Nw.use rfl (hK.2.1 (RX3, 169, RX0, "greatestLocal", "I") (List.mem_of_getElem? (i := 13) rfl))) (fun _ h9 => h9) rfl dX3_skew_87 ?_
          refine kx_top (b := (xSw pa wy no sp gr z)) (by unfold xSw; (repeat' split) <;> first | rfl | omega | contradiction) ?_
          exact hret _ _ dX3_skew_90
        · skip
          refine lv_tableIn (tgt := 52) hx hb dX3_skew_26 (by rw [iI_toInt (by omega)]; omega) (by rw [iI_toInt (by omega)]; omega) (by rw [iI_toInt (by omega), hsw]; rfl) (by decide) ?_
          refine lv_aload_n hx hb dX3_skew_52 rfl (lv_at hl 0 rfl) ?_
          refine va_get (D := D) (ci := 3) (v := .ref a) (C := RX3) (T := TX3) (N := 10) hx hb hts iX3 hown hK.1 hP 0 rfl rfl 2 (by decide) (hts (.fieldLink RX3 28 "CloseClocks" "now" "LCloseClocks$Clocks;") (by decide +kernel)) (fun _ h9 => h9) rfl dX3_skew_53 ?_
          refine kx_cV (As := []) (rest := []) (st1 := [.int (iI (xSp pa wy no 1))]) (q0 := 0) (ci := 0) ⟨hx, hb, hml, hown, hts⟩ (c_X0_localSkew l D cI cZ a a1 a2 a3 a4 a5 a6 n n1 n2 n3 pa ra fa ft dy er ti gr ah be no li dg nb wy (by first | assumption | omega) (by first | assumption | omega) (by first | assumption | omega)) (cwV 0 hts gX3_skew_X0_localSkew rfl rfl rfl (by decide +kernel) ⟨Nat.le_of_ble_eq_true rfl, Nat.le_of_ble_eq_true rfl⟩) hK (hP.sub (ws' := ckW cI cZ a a1 a2 a3 a4 a5 a6 n n1 n2 n3 pa ra fa ft dy er ti gr ah be no li dg nb wy) [7, 8, 9, 10, 11, 12, 13, 3, 4, 5, 6] rfl) rfl rfl rfl hl.1 rfl (Nat.le_of_ble_eq_true rfl) dX3_skew_56 ⟨Nat.zero_le _, Nat.zero_le _⟩ rfl ?_
          refine kx_top (b := (xSw pa wy no sp gr z)) (by unfold xSw; (repeat' split) <;> first | rfl | omega | contradiction) ?_
          exact hret _ _ dX3_skew_59
        · skip
          refine lv_tableIn (tgt := 60) hx hb dX3_skew_26 (by rw [iI_toInt (by omega)]; omega) (by rw [iI_toInt (by omega)]; omega) (by rw [iI_toInt (by omega), hsw]; rfl) (by decide) ?_
          refine lv_aload_n hx hb dX3_skew_60 rfl (lv_at hl 0 rfl) ?_
          refine va_get (D := D) (ci := 3) (v := .ref a) (C := RX3) (T := TX3) (N := 10) hx hb hts iX3 hown hK.1 hP 0 rfl rfl 2 (by decide) (hts (.fieldLink RX3 28 "CloseClocks" "now" "LCloseClocks$Clocks;") (by decide +kernel)) (fun _ h9 => h9) rfl dX3_skew_61 ?_
          refine kx_cV (As := []) (rest := []) (st1 := [.int (iI (xGl pa no))]) (q0 := 0) (ci := 0) ⟨hx, hb, hml, hown, hts⟩ (c_X0_globalSkew l D cI cZ a a1 a2 a3 a4 a5 a6 n n1 n2 n3 pa ra fa ft dy er ti gr ah be no li dg nb wy (by first | assumption | omega) (by first | assumption | omega)) (cwV 0 hts gX3_skew_X0_globalSkew rfl rfl rfl (by decide +kernel) ⟨Nat.le_of_ble_eq_true rfl, Nat.le_of_ble_eq_true rfl⟩) hK (hP.sub (ws' := ckW cI cZ a a1 a2 a3 a4 a5 a6 n n1 n2 n3 pa ra fa ft dy er ti gr ah be no li dg nb wy) [7, 8, 9, 10, 11, 12, 13, 3, 4, 5, 6] rfl) rfl rfl rfl hl.1 rfl (Nat.le_of_ble_eq_true rfl) dX3_skew_64 ⟨Nat.zero_le _, Nat.zero_le _⟩ rfl ?_
          refine kx_top (b := (xSw pa wy no sp gr z)) (by unfold xSw; (repeat' split) <;> first | rfl | omega | contradiction) ?_
          exact hret _ _ dX3_skew_67
        · skip
          refine lv_tableIn (tgt := 68) hx hb dX3_skew_26 (by rw [iI_toInt (by omega)]; omega) (by rw [iI_toInt (by omega)]; omega) (by rw [iI_toInt (by omega), hsw]; rfl) (by decide) ?_
          refine lv_aload_n hx hb dX3_skew_68 rfl (lv_at hl 0 rfl) ?_
          refine va_get (D := D) (ci := 3) (v := .ref a) (C := RX3) (T := TX3) (N := 10) hx hb hts iX3 hown hK.1 hP 0 rfl rfl 2 (by decide) (hts (.fieldLink RX3 28 "CloseClocks" "now" "LCloseClocks$Clocks;") (by decide +kernel)) (fun _ h9 => h9) rfl dX3_skew_69 ?_
          refine kx_cV (As := []) (rest := []) (st1 := [.int (iI (xSp pa wy no 1))]) (q0 := 0) (ci := 0) ⟨hx, hb, hml, hown, hts⟩ (c_X0_localSkew l D cI cZ a a1 a2 a3 a4 a5 a6 n n1 n2 n3 pa ra fa ft dy er ti gr ah be no li dg nb wy (by first | assumption | omega) (by first | assumption | omega) (by first | assumption | omega)) (cwV 0 hts gX3_skew_X0_localSkew rfl rfl rfl (by decide +kernel) ⟨Nat.le_of_ble_eq_true rfl, Nat.le_of_ble_eq_true rfl⟩) hK (hP.sub (ws' := ckW cI cZ a a1 a2 a3 a4 a5 a6 n n1 n2 n3 pa ra fa ft dy er ti gr ah be no li dg nb wy) [7, 8, 9, 10, 11, 12, 13, 3, 4, 5, 6] rfl) rfl rfl rfl hl.1 rfl (Nat.le_of_ble_eq_true rfl) dX3_skew_72 ⟨Nat.zero_le _, Nat.zero_le _⟩ rfl ?_
          refine lv_aload_n hx hb dX3_skew_75 rfl (lv_at hl 0 rfl) ?_
          refine va_get (D := D) (ci := 3) (v := .int (iI sp)) (C := RX3) (T := TX3) (N := 10) hx hb hts iX3 hown hK.1 hP 0 rfl rfl 6 (by decide) (hts (.fieldLink RX3 42 "CloseClocks" "step" "I") (by decide +kernel)) (fun _ h9 => h9) rfl dX3_skew_76 ?_
          refine kx_cS (As := [.int (iI (xSp pa wy no 1)), .int (iI sp)]) (rest := []) (st1 := [.int (iI (lvR (xSp pa wy no 1) sp))]) ⟨hx, hb, hml, hown, hts⟩ (c_X3_levelReaching l D cI cZ (xSp pa wy no 1) sp (by first | assumption | omega) (by first | assumption | omega)) (va_cwS 2 hts gX3_skew_X3_levelReaching rfl rfl rfl (by decide +kernel) ⟨Nat.le_of_ble_eq_true rfl, Nat.le_of_ble_eq_true rfl⟩) hK (hP.sub (ws' := []) [] rfl) rfl hl.1 rfl (Nat.le_of_ble_eq_true rfl) dX3_skew_79 ⟨Nat.zero_le _, Nat.zero_le _⟩ rfl ?_
          refine kx_top (b := (xSw pa wy no sp gr z)) (by unfold xSw; (repeat' split) <;> first | rfl | omega | contradiction) ?_
          exact hret _ _ dX3_skew_82
      · skip
        refine kx_ldc (z := -100000004) hx hb hown (hts (.constant RX3 75 (-100000004)) (by decide +kernel)) dX3_skew_22 (by decide) ?_
        refine kx_top (b := (xSw pa wy no sp gr z)) (by unfold xSw; (repeat' split) <;> first | rfl | omega | contradiction) ?_
        exact hret _ _ dX3_skew_24
    · skip
      refine kx_ldc (z := -100000003) hx hb hown (hts (.constant RX3 55 (-100000003)) (by decide +kernel)) dX3_skew_9 (by decide) ?_
      refine kx_top (b := (xSw pa wy no sp gr z)) (by unfold xSw; (repeat' split) <;> first | rfl | omega | contradiction) ?_
      exact hret _ _ dX3_skew_11
def rm_X3_spread : Room := ({ frames := 3, cells := 0, slots := 0, locals := 68 } : Room)
set_option maxHeartbeats 4000000 in
set_option maxRecDepth 100000 in
theorem c_X3_spread (l : Launch) (D : va_G) (cI cZ : ClassId) (x p p1 n n1 n2 n3 a a1 a2 a3 a4 a5 a6 k k1 k2 k3 k4 k5 k6 t t1 t2 t3 t4 t5 t6 : Nat) (le : Int) (te : Nat → Int) (no li : Int) (dg nb wy pa ra fa ft dy er : Nat → Int) (ti gr ah be : Int) (pak rak fak ftk dyk erk : Nat → Int) (tik grk ahk bek : Int) (pat rat fat ftt dyt ert : Nat → Int) (tit grt aht bet ik sp bo nr te9 : Int) (z : Int) (hno : 0 ≤ no ∧ no ≤ 6) (hwy : ∀ k : Nat, k < 36 → 0 ≤ wy k ∧ wy k ≤ 1000) (hpa : ∀ k : Nat, k < 24 → 0 ≤ pa k ∧ pa k ≤ 50000000) (hz : -2147483648 ≤ z ∧ z < 2147483648) : kRO l yX3_spread wsX3_spread rm_X3_spread D cI cZ [.ref x, .int (iI z)] (xW cI cZ x p p1 n n1 n2 n3 a a1 a2 a3 a4 a5 a6 k k1 k2 k3 k4 k5 k6 t t1 t2 t3 t4 t5 t6 le te no li dg nb wy pa ra fa ft dy er ti gr ah be pak rak fak ftk dyk erk tik grk ahk bek pat rat fat ftt dyt ert tit grt aht bet ik sp bo nr te9) (some (.int (iI (xSr pa wy no z)))) := by
  refine kx_ROi (cc := cX3_spread) (maxL := 2) (by decide) rfl (Nat.le_of_ble_eq_true rfl) ?_
  intro pr en s mi args below meth co Q hx hb hml hown hts hK hP hret ls hl
  have hown : s.vm.findClass RX3 = some mi.cls := hown
  have iX3 : ∀ w ∈ wsX30, w ∈ wsX3_spread := by decide +kernel
  have hl : lv_has ls 2 [(0, .ref x), (1, .int (iI z))] := hl
  refine lv_iload_n hx hb dX3_spread_0 rfl (lv_at hl 1 rfl) ?_
  refine kx_const (z := 1) hx hb dX3_spread_1 rfl ?_
  refine kx_icmp_lt (tgt := 11) hx hb (by omega) (by omega) dX3_spread_2 (by decide) (fun h2 => ?_) (fun h2 => ?_)
  · skip
    refine kx_ldc (z := -100000003) hx hb hown (hts (.constant RX3 55 (-100000003)) (by decide +kernel)) dX3_spread_11 (by decide) ?_
    refine kx_top (b := (xSr pa wy no z)) (by unfold xSr; (repeat' split) <;> first | rfl | omega | contradiction) ?_
    exact hret _ _ dX3_spread_13
  · skip
    refine lv_iload_n hx hb dX3_spread_5 rfl (lv_at hl 1 rfl) ?_
    refine kx_bipush (z := 6) hx hb dX3_spread_6 (by decide) ?_
    refine kx_icmp_lt (tgt := 14) hx hb (by omega) (by omega) dX3_spread_8 (by decide) (fun h8 => ?_) (fun h8 => ?_)
    · skip
      refine lv_aload_n hx hb dX3_spread_14 rfl (lv_at hl 0 rfl) ?_
      refine va_get (D := D) (ci := 3) (v := .ref n) (C := RX3) (T := TX3) (N := 10) hx hb hts iX3 hown hK.1 hP 0 rfl rfl 1 (by decide) (hts (.fieldLink RX3 19 "CloseClocks" "shape" "LCloseClocks$Net;") (by decide +kernel)) (fun _ h9 => h9) rfl dX3_spread_15 ?_
      refine kx_cV (As := []) (rest := []) (st1 := [.int (iI (if (0 < no) then 1 else 0))]) (q0 := 0) (ci := 1) ⟨hx, hb, hml, hown, hts⟩ (c_X1_isRead l D cI cZ n n1 n2 n3 no li dg nb wy (by first | assumption | omega)) (cwV 0 hts gX3_spread_X1_isRead rfl rfl rfl (by decide +kernel) ⟨Nat.le_of_ble_eq_true rfl, Nat.le_of_ble_eq_true rfl⟩) hK (hP.sub (ws' := ntW cI cZ n n1 n2 n3 no li dg nb wy) [3, 4, 5, 6] rfl) rfl rfl rfl hl.1 rfl (Nat.le_of_ble_eq_true rfl) dX3_spread_18 ⟨Nat.zero_le _, Nat.zero_le _⟩ rfl ?_
      refine kx_if_neB (tgt := 27) hx hb dX3_spread_21 (by decide) (fun h21 => ?_) (fun h21 => ?_)
      · skip
        refine lv_aload_n hx hb dX3_spread_27 rfl (lv_at hl 0 rfl) ?_
        refine va_get (D := D) (ci := 3) (v := .ref a) (C := RX3) (T := TX3) (N := 10) hx hb hts iX3 hown hK.1 hP 0 rfl rfl 2 (by decide) (hts (.fieldLink RX3 28 "CloseClocks" "now" "LCloseClocks$Clocks;") (by decide +kernel)) (fun _ h9 => h9) rfl dX3_spread_28 ?_
        refine lv_iload_n hx hb dX3_spread_31 rfl (lv_at hl 1 rfl) ?_
        refine kx_cV (As := [.int (iI z)]) (rest := []) (st1 := [.int (iI (xSp pa wy no z))]) (q0 := 0) (ci := 0) ⟨hx, hb, hml, hown, hts⟩ (c_X0_skewByHops l D cI cZ a a1 a2 a3 a4 a5 a6 n n1 n2 n3 pa ra fa ft dy er ti gr ah be no li dg nb wy z (by first | assumption | omega) (by first | assumption | omega) (by first | assumption | omega) (by first | assumption | omega)) (cwV 1 hts gX3_spread_X0_skewByHops rfl rfl rfl (by decide +kernel) ⟨Nat.le_of_ble_eq_true rfl, Nat.le_of_ble_eq_true rfl⟩) hK (hP.sub (ws' := ckW cI cZ a a1 a2 a3 a4 a5 a6 n n1 n2 n3 pa ra fa ft dy er ti gr ah be no li dg nb wy) [7, 8, 9, 10, 11, 12, 13, 3, 4, 5, 6] rfl) rfl rfl rfl hl.1 rfl (Nat.le_of_ble_eq_true rfl) dX3_spread_32 ⟨Nat.zero_le _, Nat.zero_le _⟩ rfl ?_
        refine kx_top (b := (xSr pa wy no z)) (by unfold xSr; (repeat' split) <;> first | rfl | omega | contradiction) ?_
        exact hret _ _ dX3_spread_35
      · skip
        refine kx_ldc (z := -100000004) hx hb hown (hts (.constant RX3 75 (-100000004)) (by decide +kernel)) dX3_spread_24 (by decide) ?_
        refine kx_top (b := (xSr pa wy no z)) (by unfold xSr; (repeat' split) <;> first | rfl | omega | contradiction) ?_
        exact hret _ _ dX3_spread_26
    · skip
      refine kx_ldc (z := -100000003) hx hb hown (hts (.constant RX3 55 (-100000003)) (by decide +kernel)) dX3_spread_11 (by decide) ?_
      refine kx_top (b := (xSr pa wy no z)) (by unfold xSr; (repeat' split) <;> first | rfl | omega | contradiction) ?_
      exact hret _ _ dX3_spread_13
def rm_X3_count : Room := ({ frames := 1, cells := 0, slots := 0, locals := 22 } : Room)
set_option maxHeartbeats 4000000 in
set_option maxRecDepth 100000 in
theorem c_X3_count (l : Launch) (D : va_G) (cI cZ : ClassId) (x p p1 n n1 n2 n3 a a1 a2 a3 a4 a5 a6 k k1 k2 k3 k4 k5 k6 t t1 t2 t3 t4 t5 t6 : Nat) (le : Int) (te : Nat → Int) (no li : Int) (dg nb wy pa ra fa ft dy er : Nat → Int) (ti gr ah be : Int) (pak rak fak ftk dyk erk : Nat → Int) (tik grk ahk bek : Int) (pat rat fat ftt dyt ert : Nat → Int) (tit grt aht bet ik sp bo nr te9 : Int) (z : Int) (hno : 0 ≤ no ∧ no ≤ 6) (hz : -2147483648 ≤ z ∧ z < 2147483648) : kRO l yX3_count wsX3_count rm_X3_count D cI cZ [.ref x, .int (iI z)] (xW cI cZ x p p1 n n1 n2 n3 a a1 a2 a3 a4 a5 a6 k k1 k2 k3 k4 k5 k6 t t1 t2 t3 t4 t5 t6 le te no li dg nb wy pa ra fa ft dy er ti gr ah be pak rak fak ftk dyk erk tik grk ahk bek pat rat fat ftt dyt ert tit grt aht bet ik sp bo nr te9) (some (.int (iI (xCt fa no li le ti sp bo nr te9 z)))) := by
  refine kx_ROi (cc := cX3_count) (maxL := 2) (by decide) rfl (Nat.le_of_ble_eq_true rfl) ?_
  intro pr en s mi args below meth co Q hx hb hml hown hts hK hP hret ls hl
  have hown : s.vm.findClass RX3 = some mi.cls := hown
  have iX3 : ∀ w ∈ wsX30, w ∈ wsX3_count := by decide +kernel
  have iX1 : ∀ w ∈ wsX10, w ∈ wsX3_count := by decide +kernel
  have iX2 : ∀ w ∈ wsX20, w ∈ wsX3_count := by decide +kernel
  have iX0 : ∀ w ∈ wsX00, w ∈ wsX3_count := by decide +kernel
  have hl : lv_has ls 2 [(0, .ref x), (1, .int (iI z))] := hl
  refine lv_iload_n hx hb dX3_count_0 rfl (lv_at hl 1 rfl) ?_
  rcases (show (z < 0 ∨ 8 < z) ∨ z = 0 ∨ z = 1 ∨ z = 2 ∨ z = 3 ∨ z = 4 ∨ z = 5 ∨ z = 6 ∨ z = 7 ∨ z = 8 by omega) with hsw | hsw | hsw | hsw | hsw | hsw | hsw | hsw | hsw | hsw
  · skip
    refine lv_tableOut (tgt := 112) hx hb dX3_count_1 (by rw [iI_toInt (by omega)]; omega) (by decide) ?_
    refine kx_ldc (z := -100000003) hx hb hown (hts (.constant RX3 55 (-100000003)) (by decide +kernel)) dX3_count_112 (by decide) ?_
    refine kx_top (b := (xCt fa no li le ti sp bo nr te9 z)) (by unfold xCt; (repeat' split) <;> first | rfl | omega) ?_
    exact hret _ _ dX3_count_114
  · skip
    refine lv_tableIn (tgt := 52) hx hb dX3_count_1 (by rw [iI_toInt (by omega)]; omega) (by rw [iI_toInt (by omega)]; omega) (by rw [iI_toInt (by omega), hsw]; rfl) (by decide) ?_
    refine lv_aload_n hx hb dX3_count_52 rfl (lv_at hl 0 rfl) ?_
    refine va_get (D := D) (ci := 3) (v := .ref n) (C := RX3) (T := TX3) (N := 10) hx hb hts iX3 hown hK.1 hP 0 rfl rfl 1 (by decide) (hts (.fieldLink RX3 19 "CloseClocks" "shape" "LCloseClocks$Net;") (by decide +kernel)) (fun _ h9 => h9) rfl dX3_count_53 ?_
    refine va_getN (D := D) (ci := 1) (v := .int (iI no)) (C := RX1) (T := TX1) (N := 5) hx hb hts iX1 hown hK.1 hP 3 rfl rfl 3 (by decide) (va_Nw.use rfl (hK.2.1 (RX3, 83, RX1, "nodes", "I") (List.mem_of_getElem? (i := 4) rfl))) (fun _ h9 => h9) rfl dX3_count_56 ?_
    refine kx_top (b := (xCt fa no li le ti sp bo nr te9 z)) (by unfold xCt; (repeat' split) <;> first | rfl | omega) ?_
    exact hret _ _ dX3_count_59
  · skip
    refine lv_tableIn (tgt := 60) hx hb dX3_count_1 (by rw [iI_toInt (by omega)]; omega) (by rw [iI_toInt (by omega)]; omega) (by rw [iI_toInt (by omega), hsw]; rfl) (by decide) ?_
    refine lv_aload_n hx hb dX3_count_60 rfl (lv_at hl 0 rfl) ?_
    refine va_get (D := D) (ci := 3) (v := .ref n) (C := RX3) (T := TX3) (N := 10) hx hb hts iX3 hown hK.1 hP 0 rfl rfl 1 (by decide) (hts (.fieldLink RX3 19 "CloseClocks" "shape" "LCloseClocks$Net;") (by decide +kernel)) (fun _ h9 => h9) rfl dX3_count_61 ?_
    refine va_getN (D := D) (ci := 1) (v := .int (iI li)) (C := RX1) (T := TX1) (N := 5) hx hb hts iX1 hown hK.1 hP 3 rfl rfl 4 (by decide) (va_Nw.use rfl (hK.2.1 (RX3, 190, RX1, "links", "I") (List.mem_of_getElem? (i := 6) rfl))) (fun _ h9 => h9) rfl dX3_count_64 ?_
    refine kx_top (b := (xCt fa no li le ti sp bo nr te9 z)) (by unfold xCt; (repeat' split) <;> first | rfl | omega) ?_
    exact hret _ _ dX3_count_67
  · skip
    refine lv_tableIn (tgt := 68) hx hb dX3_count_1 (by rw [iI_toInt (by omega)]; omega) (by rw [iI_toInt (by omega)]; omega) (by rw [iI_toInt (by omega), hsw]; rfl) (by decide) ?_
    refine lv_aload_n hx hb dX3_count_68 rfl (lv_at hl 0 rfl) ?_
    refine va_get (D := D) (ci := 3) (v := .ref p) (C := RX3) (T := TX3) (N := 10) hx hb hts iX3 hown hK.1 hP 0 rfl rfl 0 (by decide) (hts (.fieldLink RX3 10 "CloseClocks" "page" "LCloseClocks$Page;") (by decide +kernel)) (fun _ h9 => h9) rfl dX3_count_69 ?_
    refine va_getN (D := D) (ci := 2) (v := .int (iI le)) (C := RX2) (T := TX2) (N := 2) hx hb hts iX2 hown hK.1 hP 1 rfl rfl 1 (by decide) (va_Nw.use rfl (hK.2.1 (RX3, 193, RX2, "length", "I") (List.mem_of_getElem? (i := 0) rfl))) (fun _ h9 => h9) rfl dX3_count_72 ?_
    refine kx_top (b := (xCt fa no li le ti sp bo nr te9 z)) (by unfold xCt; (repeat' split) <;> first | rfl | omega) ?_
    exact hret _ _ dX3_count_75
  · skip
    refine lv_tableIn (tgt := 76) hx hb dX3_count_1 (by rw [iI_toInt (by omega)]; omega) (by rw [iI_toInt (by omega)]; omega) (by rw [iI_toInt (by omega), hsw]; rfl) (by decide) ?_
    refine lv_aload_n hx hb dX3_count_76 rfl (lv_at hl 0 rfl) ?_
    refine va_get (D := D) (ci := 3) (v := .ref a) (C := RX3) (T := TX3) (N := 10) hx hb hts iX3 hown hK.1 hP 0 rfl rfl 2 (by decide) (hts (.fieldLink RX3 28 "CloseClocks" "now" "LCloseClocks$Clocks;") (by decide +kernel)) (fun _ h9 => h9) rfl dX3_count_77 ?_
    refine va_getN (D := D) (ci := 0) (v := .int (iI ti)) (C := RX0) (T := TX0) (N := 11) hx hb hts iX0 hown hK.1 hP 7 rfl rfl 7 (by decide) (va_Nw.use rfl (hK.2.1 (RX3, 124, RX0, "ticks", "I") (List.mem_of_getElem? (i := 12) rfl))) (fun _ h9 => h9) rfl dX3_count_80 ?_
    refine kx_top (b := (xCt fa no li le ti sp bo nr te9 z)) (by unfold xCt; (repeat' split) <;> first | rfl | omega) ?_
    exact hret _ _ dX3_count_83
  · skip
    refine lv_tableIn (tgt := 84) hx hb dX3_count_1 (by rw [iI_toInt (by omega)]; omega) (by rw [iI_toInt (by omega)]; omega) (by rw [iI_toInt (by omega), hsw]; rfl) (by decide) ?_
    refine lv_aload_n hx hb dX3_count_84 rfl (lv_at hl 0 rfl) ?_
    refine va_get (D := D) (ci := 3) (v := .int (iI sp)) (C := RX3) (T := TX3) (N := 10) hx hb hts iX3 hown hK.1 hP 0 rfl rfl 6 (by decide) (hts (.fieldLink RX3 42 "CloseClocks" "step" "I") (by decide +kernel)) (fun _ h9 => h9) rfl dX3_count_85 ?_
    refine kx_top (b := (xCt fa no li le ti sp bo nr te9 z)) (by unfold xCt; (repeat' split) <;> first | rfl | omega) ?_
    exact hret _ _ dX3_count_88
  · skip
    refine lv_tableIn (tgt := 89) hx hb dX3_count_1 (by rw [iI_toInt (by omega)]; omega) (by rw [iI_toInt (by omega)]; omega) (by rw [iI_toInt (by omega), hsw]; rfl) (by decide) ?_
    refine lv_aload_n hx hb dX3_count_89 rfl (lv_at hl 0 rfl) ?_
    refine va_get (D := D) (ci := 3) (v := .int (iI bo)) (C := RX3) (T := TX3) (N := 10) hx hb hts iX3 hown hK.1 hP 0 rfl rfl 7 (by decide) (hts (.fieldLink RX3 46 "CloseClocks" "boost" "I") (by decide +kernel)) (fun _ h9 => h9) rfl dX3_count_90 ?_
    refine kx_top (b := (xCt fa no li le ti sp bo nr te9 z)) (by unfold xCt; (repeat' split) <;> first | rfl | omega) ?_
    exact hret _ _ dX3_count_93
  · skip
    refine lv_tableIn (tgt := 94) hx hb dX3_count_1 (by rw [iI_toInt (by omega)]; omega) (by rw [iI_toInt (by omega)]; omega) (by rw [iI_toInt (by omega), hsw]; rfl) (by decide) ?_
    refine lv_aload_n hx hb dX3_count_94 rfl (lv_at hl 0 rfl) ?_
    refine va_get (D := D) (ci := 3) (v := .ref a) (C := RX3) (T := TX3) (N := 10) hx hb hts iX3 hown hK.1 hP 0 rfl rfl 2 (by decide) (hts (.fieldLink RX3 28 "CloseClocks" "now" "LCloseClocks$Clocks;") (by decide +kernel)) (fun _ h9 => h9) rfl dX3_count_95 ?_
    refine kx_cV (As := []) (rest := []) (st1 := [.int (iI (sumF fa no.toNat))]) (q0 := 0) (ci := 0) ⟨hx, hb, hml, hown, hts⟩ (c_X0_howManyFast l D cI cZ a a1 a2 a3 a4 a5 a6 n n1 n2 n3 pa ra fa ft dy er ti gr ah be no li dg nb wy (by first | assumption | omega)) (cwV 0 hts gX3_count_X0_howManyFast rfl rfl rfl (by decide +kernel) ⟨Nat.le_of_ble_eq_true rfl, Nat.le_of_ble_eq_true rfl⟩) hK (hP.sub (ws' := ckW cI cZ a a1 a2 a3 a4 a5 a6 n n1 n2 n3 pa ra fa ft dy er ti gr ah be no li dg nb wy) [7, 8, 9, 10, 11, 12, 13, 3, 4, 5, 6] rfl) rfl rfl rfl hl.1 rfl (Nat.le_of_ble_eq_true rfl) dX3_count_98 ⟨Nat.zero_le _, Nat.zero_le _⟩ rfl ?_
    refine kx_top (b := (xCt fa no li le ti sp bo nr te9 z)) (by unfold xCt; (repeat' split) <;> first | rfl | omega) ?_
    exact hret _ _ dX3_count_101
  · skip
    refine lv_tableIn (tgt := 102) hx hb dX3_count_1 (by rw [iI_toInt (by omega)]; omega) (by rw [iI_toInt (by omega)]; omega) (by rw [iI_toInt (by omega), hsw]; rfl) (by decide) ?_
    refine lv_aload_n hx hb dX3_count_102 rfl (lv_at hl 0 rfl) ?_
    refine va_get (D := D) (ci := 3) (v := .int (iI nr)) (C := RX3) (T := TX3) (N := 10) hx hb hts iX3 hown hK.1 hP 0 rfl rfl 8 (by decide) (hts (.fieldLink RX3 49 "CloseClocks" "netsRead" "I") (by decide +kernel)) (fun _ h9 => h9) rfl dX3_count_103 ?_
    refine kx_top (b := (xCt fa no li le ti sp bo nr te9 z)) (by unfold xCt; (repeat' split) <;> first | rfl | omega) ?_
    exact hret _ _ dX3_count_106
  · skip
    refine lv_tableIn (tgt := 107) hx hb dX3_count_1 (by rw [iI_toInt (by omega)]; omega) (by rw [iI_toInt (by omega)]; omega) (by rw [iI_toInt (by omega), hsw]; rfl) (by decide) ?_
    refine lv_aload_n hx hb dX3_count_107 rfl (lv_at hl 0 rfl) ?_
    refine va_get (D := D) (ci := 3) (v := .int (iI te9)) (C := RX3) (T := TX3) (N := 10) hx hb hts iX3 hown hK.1 hP 0 rfl rfl 9 (by decide) (hts (.fieldLink RX3 52 "CloseClocks" "ticksEver" "I") (by decide +kernel)) (fun _ h9 => h9) rfl dX3_count_108 ?_
    refine kx_top (b := (xCt fa no li le ti sp bo nr te9 z)) (by unfold xCt; (repeat' split) <;> first | rfl | omega) ?_
    exact hret _ _ dX3_count_111
def rm_X3_image : Room := ({ frames := 3, cells := 0, slots := 0, locals := 68 } : Room)
set_option maxHeartbeats 4000000 in
set_option maxRecDepth 100000 in
theorem c_X3_image (l : Launch) (D : va_G) (cI cZ : ClassId) (x p p1 n n1 n2 n3 a a1 a2 a3 a4 a5 a6 k k1 k2 k3 k4 k5 k6 t t1 t2 t3 t4 t5 t6 : Nat) (le : Int) (te : Nat → Int) (no li : Int) (dg nb wy pa ra fa ft dy er : Nat → Int) (ti gr ah be : Int) (pak rak fak ftk dyk erk : Nat → Int) (tik grk ahk bek : Int) (pat rat fat ftt dyt ert : Nat → Int) (tit grt aht bet ik sp bo nr te9 : Int)  (hno : 0 ≤ no ∧ no ≤ 6) : kWR l yX3_image wsX3_image rm_X3_image D cI cZ [.ref x] (xW cI cZ x p p1 n n1 n2 n3 a a1 a2 a3 a4 a5 a6 k k1 k2 k3 k4 k5 k6 t t1 t2 t3 t4 t5 t6 le te no li dg nb wy pa ra fa ft dy er ti gr ah be pak rak fak ftk dyk erk tik grk ahk bek pat rat fat ftt dyt ert tit grt aht bet ik sp bo nr te9) (fun u : Int × (Nat → Int) × (Nat → Int) × (Nat → Int) × (Nat → Int) × (Nat → Int) × (Nat → Int) × Int × Int => some (.int (iI (if 0 < no then ti else -100000004)))) (fun u : Int × (Nat → Int) × (Nat → Int) × (Nat → Int) × (Nat → Int) × (Nat → Int) × (Nat → Int) × Int × Int => u.1 = (if 0 < no then 1 else ik) ∧ u.2.1 = (if 0 < no then pa else pak) ∧ u.2.2.1 = (if 0 < no then ra else rak) ∧ u.2.2.2.1 = (if 0 < no then fa else fak) ∧ u.2.2.2.2.1 = (if 0 < no then ft else ftk) ∧ u.2.2.2.2.2.1 = (if 0 < no then dy else dyk) ∧ u.2.2.2.2.2.2.1 = (if 0 < no then er else erk) ∧ u.2.2.2.2.2.2.2.1 = (if 0 < no then ti else tik) ∧ u.2.2.2.2.2.2.2.2 = (if 0 < no then gr else grk)) (fun u : Int × (Nat → Int) × (Nat → Int) × (Nat → Int) × (Nat → Int) × (Nat → Int) × (Nat → Int) × Int × Int => xW cI cZ x p p1 n n1 n2 n3 a a1 a2 a3 a4 a5 a6 k k1 k2 k3 k4 k5 k6 t t1 t2 t3 t4 t5 t6 le te no li dg nb wy pa ra fa ft dy er ti gr ah be u.2.1 u.2.2.1 u.2.2.2.1 u.2.2.2.2.1 u.2.2.2.2.2.1 u.2.2.2.2.2.2.1 u.2.2.2.2.2.2.2.1 u.2.2.2.2.2.2.2.2 ahk bek pat rat fat ftt dyt ert tit grt aht bet u.1 sp bo nr te9) 0 0 := by
  refine kx_WRi (cc := cX3_image) (maxL := 1) (by decide) rfl (Nat.le_of_ble_eq_true rfl) ?_
  intro pr en s mi args below meth co Q A hx hb hml hown hts hK hin hA hP hD hS hret ls hl
  have hown : s.vm.findClass RX3 = some mi.cls := hown
  have iX3 : ∀ w ∈ wsX30, w ∈ wsX3_image := by decide +kernel
  have iX0 : ∀ w ∈ wsX00, w ∈ wsX3_image := by decide +kernel
  have hl : lv_has ls 1 [(0, .ref x)] := hl
  generalize hH0 : s.heap = H0 at hA hP hS hret ⊢
  obtain ⟨H, hH⟩ : ∃ H : Heap, H = H0 := ⟨_, rfl⟩
  obtain ⟨locs, hlocs⟩ : ∃ locs : List Loc, locs = [] := ⟨_, rfl⟩
  have hS : va_S A H0 H locs := by rw [hH, hlocs]; exact hS
  have hP : va_P D vwCl (xW cI cZ x p p1 n n1 n2 n3 a a1 a2 a3 a4 a5 a6 k k1 k2 k3 k4 k5 k6 t t1 t2 t3 t4 t5 t6 le te no li dg nb wy pa ra fa ft dy er ti gr ah be pak rak fak ftk dyk erk tik grk ahk bek pat rat fat ftt dyt ert tit grt aht bet ik sp bo nr te9) H := by rw [hH]; exact hP
  suffices hgo : W pr l en rm_X3_image s mi args below meth co H locs 0 0 Q (F0 mi 0 ls []) by rw [hH, hlocs] at hgo; exact hgo
  clear hH hlocs
  refine lv_aload_n hx hb dX3_image_0 rfl (lv_at hl 0 rfl) ?_
  refine va_get (D := D) (ci := 3) (v := .ref n) (C := RX3) (T := TX3) (N := 10) hx hb hts iX3 hown hK.1 hP 0 rfl rfl 1 (by decide) (hts (.fieldLink RX3 19 "CloseClocks" "shape" "LCloseClocks$Net;") (by decide +kernel)) (fun _ h9 => h9) rfl dX3_image_1 ?_
  refine kx_cV (As := []) (rest := []) (st1 := [.int (iI (if (0 < no) then 1 else 0))]) (q0 := 0) (ci := 1) ⟨hx, hb, hml, hown, hts⟩ (c_X1_isRead l D cI cZ n n1 n2 n3 no li dg nb wy (by first | assumption | omega)) (cwV 0 hts gX3_image_X1_isRead rfl rfl rfl (by decide +kernel) ⟨Nat.le_of_ble_eq_true rfl, Nat.le_of_ble_eq_true rfl⟩) hK (hP.sub (ws' := ntW cI cZ n n1 n2 n3 no li dg nb wy) [3, 4, 5, 6] rfl) rfl rfl rfl hl.1 rfl (Nat.le_of_ble_eq_true rfl) dX3_image_4 ⟨Nat.zero_le _, Nat.zero_le _⟩ rfl ?_
  refine kx_if_neB (tgt := 13) hx hb dX3_image_7 (by decide) (fun h7 => ?_) (fun h7 => ?_)
  · skip
    refine lv_aload_n hx hb dX3_image_13 rfl (lv_at hl 0 rfl) ?_
    refine va_get (D := D) (ci := 3) (v := .ref k) (C := RX3) (T := TX3) (N := 10) hx hb hts iX3 hown hK.1 hP 0 rfl rfl 3 (by decide) (hts (.fieldLink RX3 32 "CloseClocks" "kept" "LCloseClocks$Clocks;") (by decide +kernel)) (fun _ h9 => h9) rfl dX3_image_14 ?_
    refine lv_aload_n hx hb dX3_image_17 rfl (lv_at hl 0 rfl) ?_
    refine va_get (D := D) (ci := 3) (v := .ref a) (C := RX3) (T := TX3) (N := 10) hx hb hts iX3 hown hK.1 hP 0 rfl rfl 2 (by decide) (hts (.fieldLink RX3 28 "CloseClocks" "now" "LCloseClocks$Clocks;") (by decide +kernel)) (fun _ h9 => h9) rfl dX3_image_18 ?_
    refine kx_cVW (As := [.ref a]) (rest := []) (wr := [(x, .inr (3, [.ref p, .ref n, .ref a, .ref k, .ref t, .int (iI ik), .int (iI sp), .int (iI bo), .int (iI nr), .int (iI te9)])), (p, .inr (2, [.ref p1, .int (iI le)])), (p1, aI cI 61 te), (n, .inr (1, [.ref n1, .ref n2, .ref n3, .int (iI no), .int (iI li)])), (n1, aI cI 6 dg), (n2, aI cI 36 nb), (n3, aI cI 36 wy), (t, .inr (0, [.ref n, .ref t1, .ref t2, .ref t3, .ref t4, .ref t5, .ref t6, .int (iI tit), .int (iI grt), .int (iI aht), .int (iI bet)])), (t1, aI cI 24 pat), (t2, aI cI 6 rat), (t3, aI cI 6 fat), (t4, aI cI 6 ftt), (t5, aI cI 36 dyt), (t6, aI cI 36 ert)]) (q0 := 0) (ci := 0) ⟨hx, hb, hml, hown, hts⟩ (c_X0_copyAll l D cI cZ k k1 k2 k3 k4 k5 k6 a a1 a2 a3 a4 a5 a6 n pak rak fak ftk dyk erk tik grk ahk bek pa ra fa ft dy er ti gr ah be ) (cwV 1 hts gX3_image_X0_copyAll rfl rfl rfl (by decide +kernel) ⟨Nat.le_of_ble_eq_true rfl, Nat.le_of_ble_eq_true rfl⟩) hK hP hD hS hA [14, 15, 16, 17, 18, 19, 20, 7, 8, 9, 10, 11, 12, 13] [0, 1, 2, 3, 4, 5, 6, 21, 22, 23, 24, 25, 26, 27] rfl rfl (by decide) (by decide) (by decide) rfl rfl rfl hl.1 rfl (Nat.le_of_ble_eq_true rfl) dX3_image_21 ⟨Nat.le_of_ble_eq_true rfl, Nat.le_of_ble_eq_true rfl⟩ (fun u H locs hq hP hD hS => ?_)
    have hP : va_P D vwCl (xW cI cZ x p p1 n n1 n2 n3 a a1 a2 a3 a4 a5 a6 k k1 k2 k3 k4 k5 k6 t t1 t2 t3 t4 t5 t6 le te no li dg nb wy pa ra fa ft dy er ti gr ah be pa ra fa ft dy er ti gr ahk bek pat rat fat ftt dyt ert tit grt aht bet ik sp bo nr te9) H := hP.sub [0, 1, 2, 3, 4, 5, 6, 21, 22, 23, 24, 25, 26, 27, 14, 15, 16, 17, 18, 19, 20, 7, 8, 9, 10, 11, 12, 13] rfl
    have hD : va_D A (xW cI cZ x p p1 n n1 n2 n3 a a1 a2 a3 a4 a5 a6 k k1 k2 k3 k4 k5 k6 t t1 t2 t3 t4 t5 t6 le te no li dg nb wy pa ra fa ft dy er ti gr ah be pa ra fa ft dy er ti gr ahk bek pat rat fat ftt dyt ert tit grt aht bet ik sp bo nr te9) := hD.sub [0, 1, 2, 3, 4, 5, 6, 21, 22, 23, 24, 25, 26, 27, 14, 15, 16, 17, 18, 19, 20, 7, 8, 9, 10, 11, 12, 13] (by decide) rfl
    refine W.eq (g2 := F0 mi 24 ls []) rfl ?_
    refine lv_aload_n hx hb dX3_image_24 rfl (lv_at hl 0 rfl) ?_
    refine kx_const (z := 1) hx hb dX3_image_25 rfl ?_
    refine va_put (D := D) (ci := 3) (v := .int (iI 1)) (ty := .boolean) (C := RX3) (T := TX3) (N := 10) hx hb hts iX3 tyX3 tyX3_ok nmX3 hown hK.1 hP hD hS 0 rfl rfl 5 (by decide) (hts (.fieldLink RX3 38 "CloseClocks" "imageKept" "Z") (by decide +kernel)) (fun _ h9 => h9) rfl (by decide +kernel) (by rfl) (by rfl) (Nat.le_of_ble_eq_true rfl) dX3_image_26 (fun H locs hP hD hS => ?_)
    have hP : va_P D vwCl (xW cI cZ x p p1 n n1 n2 n3 a a1 a2 a3 a4 a5 a6 k k1 k2 k3 k4 k5 k6 t t1 t2 t3 t4 t5 t6 le te no li dg nb wy pa ra fa ft dy er ti gr ah be pa ra fa ft dy er ti gr ahk bek pat rat fat ftt dyt ert tit grt aht bet 1 sp bo nr te9) H := hP
    have hD : va_D A (xW cI cZ x p p1 n n1 n2 n3 a a1 a2 a3 a4 a5 a6 k k1 k2 k3 k4 k5 k6 t t1 t2 t3 t4 t5 t6 le te no li dg nb wy pa ra fa ft dy er ti gr ah be pa ra fa ft dy er ti gr ahk bek pat rat fat ftt dyt ert tit grt aht bet 1 sp bo nr te9) := hD
    refine lv_aload_n hx hb dX3_image_29 rfl (lv_at hl 0 rfl) ?_
    refine va_get (D := D) (ci := 3) (v := .ref k) (C := RX3) (T := TX3) (N := 10) hx hb hts iX3 hown hK.1 hP 0 rfl rfl 3 (by decide) (hts (.fieldLink RX3 32 "CloseClocks" "kept" "LCloseClocks$Clocks;") (by decide +kernel)) (fun _ h9 => h9) rfl dX3_image_30 ?_
    refine va_getN (D := D) (ci := 0) (v := .int (iI ti)) (C := RX0) (T := TX0) (N := 11) hx hb hts iX0 hown hK.1 hP 14 rfl rfl 7 (by decide) (va_Nw.use rfl (hK.2.1 (RX3, 124, RX0, "ticks", "I") (List.mem_of_getElem? (i := 12) rfl))) (fun _ h9 => h9) rfl dX3_image_33 ?_
    refine kx_top (b := (if 0 < no then ti else -100000004)) (by (repeat' split) <;> first | rfl | omega | contradiction | (exfalso; simp_all; done) | (exfalso; simp_all; omega)) ?_
    exact hret (1, pa, ra, fa, ft, dy, er, ti, gr) H locs _ _ (⟨(by (try dsimp only); (repeat' split) <;> first | rfl | omega | contradiction | (exfalso; simp_all; done) | (exfalso; simp_all; omega)), (by (try dsimp only); (repeat' split) <;> first | rfl | omega | contradiction | (exfalso; simp_all; done) | (exfalso; simp_all; omega)), (by (try dsimp only); (repeat' split) <;> first | rfl | omega | contradiction | (exfalso; simp_all; done) | (exfalso; simp_all; omega)), (by (try dsimp only); (repeat' split) <;> first | rfl | omega | contradiction | (exfalso; simp_all; done) | (exfalso; simp_all; omega)), (by (try dsimp only); (repeat' split) <;> first | rfl | omega | contradiction | (exfalso; simp_all; done) | (exfalso; simp_all; omega)), (by (try dsimp only); (repeat' split) <;> first | rfl | omega | contradiction | (exfalso; simp_all; done) | (exfalso; simp_all; omega)), (by (try dsimp only); (repeat' split) <;> first | rfl | omega | contradiction | (exfalso; simp_all; done) | (exfalso; simp_all; omega)), (by (try dsimp only); (repeat' split) <;> first | rfl | omega | contradiction | (exfalso; simp_all; done) | (exfalso; simp_all; omega)), (by (try dsimp only); (repeat' split) <;> first | rfl | omega | contradiction | (exfalso; simp_all; done) | (exfalso; simp_all; omega))⟩) hP hD hS dX3_image_36
  · skip
    refine kx_ldc (z := -100000004) hx hb hown (hts (.constant RX3 75 (-100000004)) (by decide +kernel)) dX3_image_10 (by decide) ?_
    refine kx_top (b := (if 0 < no then ti else -100000004)) (by (repeat' split) <;> first | rfl | omega | contradiction | (exfalso; simp_all; done) | (exfalso; simp_all; omega)) ?_
    exact hret (ik, pak, rak, fak, ftk, dyk, erk, tik, grk) H locs _ _ (⟨(by (try dsimp only); (repeat' split) <;> first | rfl | omega | contradiction | (exfalso; simp_all; done) | (exfalso; simp_all; omega)), (by (try dsimp only); (repeat' split) <;> first | rfl | omega | contradiction | (exfalso; simp_all; done) | (exfalso; simp_all; omega)), (by (try dsimp only); (repeat' split) <;> first | rfl | omega | contradiction | (exfalso; simp_all; done) | (exfalso; simp_all; omega)), (by (try dsimp only); (repeat' split) <;> first | rfl | omega | contradiction | (exfalso; simp_all; done) | (exfalso; simp_all; omega)), (by (try dsimp only); (repeat' split) <;> first | rfl | omega | contradiction | (exfalso; simp_all; done) | (exfalso; simp_all; omega)), (by (try dsimp only); (repeat' split) <;> first | rfl | omega | contradiction | (exfalso; simp_all; done) | (exfalso; simp_all; omega)), (by (try dsimp only); (repeat' split) <;> first | rfl | omega | contradiction | (exfalso; simp_all; done) | (exfalso; simp_all; omega)), (by (try dsimp only); (repeat' split) <;> first | rfl | omega | contradiction | (exfalso; simp_all; done) | (exfalso; simp_all; omega)), (by (try dsimp only); (repeat' split) <;> first | rfl | omega | contradiction | (exfalso; simp_all; done) | (exfalso; simp_all; omega))⟩) hP hD hS dX3_image_12
def rm_X3_restore : Room := ({ frames := 3, cells := 0, slots := 0, locals := 68 } : Room)
set_option maxHeartbeats 4000000 in
set_option maxRecDepth 100000 in
theorem c_X3_restore (l : Launch) (D : va_G) (cI cZ : ClassId) (x p p1 n n1 n2 n3 a a1 a2 a3 a4 a5 a6 k k1 k2 k3 k4 k5 k6 t t1 t2 t3 t4 t5 t6 : Nat) (le : Int) (te : Nat → Int) (no li : Int) (dg nb wy pa ra fa ft dy er : Nat → Int) (ti gr ah be : Int) (pak rak fak ftk dyk erk : Nat → Int) (tik grk ahk bek : Int) (pat rat fat ftt dyt ert : Nat → Int) (tit grt aht bet ik sp bo nr te9 : Int)  (hik : ik = 0 ∨ ik = 1) : kWR l yX3_restore wsX3_restore rm_X3_restore D cI cZ [.ref x] (xW cI cZ x p p1 n n1 n2 n3 a a1 a2 a3 a4 a5 a6 k k1 k2 k3 k4 k5 k6 t t1 t2 t3 t4 t5 t6 le te no li dg nb wy pa ra fa ft dy er ti gr ah be pak rak fak ftk dyk erk tik grk ahk bek pat rat fat ftt dyt ert tit grt aht bet ik sp bo nr te9) (fun u : (Nat → Int) × (Nat → Int) × (Nat → Int) × (Nat → Int) × (Nat → Int) × (Nat → Int) × Int × Int => some (.int (iI (if ik = 0 then -100000004 else tik)))) (fun u : (Nat → Int) × (Nat → Int) × (Nat → Int) × (Nat → Int) × (Nat → Int) × (Nat → Int) × Int × Int => u.1 = (if ik = 0 then pa else pak) ∧ u.2.1 = (if ik = 0 then ra else rak) ∧ u.2.2.1 = (if ik = 0 then fa else fak) ∧ u.2.2.2.1 = (if ik = 0 then ft else ftk) ∧ u.2.2.2.2.1 = (if ik = 0 then dy else dyk) ∧ u.2.2.2.2.2.1 = (if ik = 0 then er else erk) ∧ u.2.2.2.2.2.2.1 = (if ik = 0 then ti else tik) ∧ u.2.2.2.2.2.2.2 = (if ik = 0 then gr else grk)) (fun u : (Nat → Int) × (Nat → Int) × (Nat → Int) × (Nat → Int) × (Nat → Int) × (Nat → Int) × Int × Int => xW cI cZ x p p1 n n1 n2 n3 a a1 a2 a3 a4 a5 a6 k k1 k2 k3 k4 k5 k6 t t1 t2 t3 t4 t5 t6 le te no li dg nb wy u.1 u.2.1 u.2.2.1 u.2.2.2.1 u.2.2.2.2.1 u.2.2.2.2.2.1 u.2.2.2.2.2.2.1 u.2.2.2.2.2.2.2 ah be pak rak fak ftk dyk erk tik grk ahk bek pat rat fat ftt dyt ert tit grt aht bet ik sp bo nr te9) 0 0 := by
  refine kx_WRi (cc := cX3_restore) (maxL := 1) (by decide) rfl (Nat.le_of_ble_eq_true rfl) ?_
  intro pr en s mi args below meth co Q A hx hb hml hown hts hK hin hA hP hD hS hret ls hl
  have hown : s.vm.findClass RX3 = some mi.cls := hown
  have iX3 : ∀ w ∈ wsX30, w ∈ wsX3_restore := by decide +kernel
  have iX0 : ∀ w ∈ wsX00, w ∈ wsX3_restore := by decide +kernel
  have hl : lv_has ls 1 [(0, .ref x)] := hl
  generalize hH0 : s.heap = H0 at hA hP hS hret ⊢
  obtain ⟨H, hH⟩ : ∃ H : Heap, H = H0 := ⟨_, rfl⟩
  obtain ⟨locs, hlocs⟩ : ∃ locs : List Loc, locs = [] := ⟨_, rfl⟩
  have hS : va_S A H0 H locs := by rw [hH, hlocs]; exact hS
  have hP : va_P D vwCl (xW cI cZ x p p1 n n1 n2 n3 a a1 a2 a3 a4 a5 a6 k k1 k2 k3 k4 k5 k6 t t1 t2 t3 t4 t5 t6 le te no li dg nb wy pa ra fa ft dy er ti gr ah be pak rak fak ftk dyk erk tik grk ahk bek pat rat fat ftt dyt ert tit grt aht bet ik sp bo nr te9) H := by rw [hH]; exact hP
  suffices hgo : W pr l en rm_X3_restore s mi args below meth co H locs 0 0 Q (F0 mi 0 ls []) by rw [hH, hlocs] at hgo; exact hgo
  clear hH hlocs
  refine lv_aload_n hx hb dX3_restore_0 rfl (lv_at hl 0 rfl) ?_
  refine va_get (D := D) (ci := 3) (v := .int (iI ik)) (C := RX3) (T := TX3) (N := 10) hx hb hts iX3 hown hK.1 hP 0 rfl rfl 5 (by decide) (hts (.fieldLink RX3 38 "CloseClocks" "imageKept" "Z") (by decide +kernel)) (fun _ h9 => h9) rfl dX3_restore_1 ?_
  refine kx_if_ne (tgt := 10) hx hb (by omega) dX3_restore_4 (by decide) (fun h4 => ?_) (fun h4 => ?_)
  · skip
    refine lv_aload_n hx hb dX3_restore_10 rfl (lv_at hl 0 rfl) ?_
    refine va_get (D := D) (ci := 3) (v := .ref a) (C := RX3) (T := TX3) (N := 10) hx hb hts iX3 hown hK.1 hP 0 rfl rfl 2 (by decide) (hts (.fieldLink RX3 28 "CloseClocks" "now" "LCloseClocks$Clocks;") (by decide +kernel)) (fun _ h9 => h9) rfl dX3_restore_11 ?_
    refine lv_aload_n hx hb dX3_restore_14 rfl (lv_at hl 0 rfl) ?_
    refine va_get (D := D) (ci := 3) (v := .ref k) (C := RX3) (T := TX3) (N := 10) hx hb hts iX3 hown hK.1 hP 0 rfl rfl 3 (by decide) (hts (.fieldLink RX3 32 "CloseClocks" "kept" "LCloseClocks$Clocks;") (by decide +kernel)) (fun _ h9 => h9) rfl dX3_restore_15 ?_
    refine kx_cVW (As := [.ref k]) (rest := []) (wr := [(x, .inr (3, [.ref p, .ref n, .ref a, .ref k, .ref t, .int (iI ik), .int (iI sp), .int (iI bo), .int (iI nr), .int (iI te9)])), (p, .inr (2, [.ref p1, .int (iI le)])), (p1, aI cI 61 te), (n, .inr (1, [.ref n1, .ref n2, .ref n3, .int (iI no), .int (iI li)])), (n1, aI cI 6 dg), (n2, aI cI 36 nb), (n3, aI cI 36 wy), (t, .inr (0, [.ref n, .ref t1, .ref t2, .ref t3, .ref t4, .ref t5, .ref t6, .int (iI tit), .int (iI grt), .int (iI aht), .int (iI bet)])), (t1, aI cI 24 pat), (t2, aI cI 6 rat), (t3, aI cI 6 fat), (t4, aI cI 6 ftt), (t5, aI cI 36 dyt), (t6, aI cI 36 ert)]) (q0 := 0) (ci := 0) ⟨hx, hb, hml, hown, hts⟩ (c_X0_copyAll l D cI cZ a a1 a2 a3 a4 a5 a6 k k1 k2 k3 k4 k5 k6 n pa ra fa ft dy er ti gr ah be pak rak fak ftk dyk erk tik grk ahk bek ) (cwV 1 hts gX3_restore_X0_copyAll rfl rfl rfl (by decide +kernel) ⟨Nat.le_of_ble_eq_true rfl, Nat.le_of_ble_eq_true rfl⟩) hK hP hD hS hA [7, 8, 9, 10, 11, 12, 13, 14, 15, 16, 17, 18, 19, 20] [0, 1, 2, 3, 4, 5, 6, 21, 22, 23, 24, 25, 26, 27] rfl rfl (by decide) (by decide) (by decide) rfl rfl rfl hl.1 rfl (Nat.le_of_ble_eq_true rfl) dX3_restore_18 ⟨Nat.le_of_ble_eq_true rfl, Nat.le_of_ble_eq_true rfl⟩ (fun u H locs hq hP hD hS => ?_)
    have hP : va_P D vwCl (xW cI cZ x p p1 n n1 n2 n3 a a1 a2 a3 a4 a5 a6 k k1 k2 k3 k4 k5 k6 t t1 t2 t3 t4 t5 t6 le te no li dg nb wy pak rak fak ftk dyk erk tik grk ah be pak rak fak ftk dyk erk tik grk ahk bek pat rat fat ftt dyt ert tit grt aht bet ik sp bo nr te9) H := hP.sub [0, 1, 2, 3, 4, 5, 6, 14, 15, 16, 17, 18, 19, 20, 21, 22, 23, 24, 25, 26, 27, 7, 8, 9, 10, 11, 12, 13] rfl
    have hD : va_D A (xW cI cZ x p p1 n n1 n2 n3 a a1 a2 a3 a4 a5 a6 k k1 k2 k3 k4 k5 k6 t t1 t2 t3 t4 t5 t6 le te no li dg nb wy pak rak fak ftk dyk erk tik grk ah be pak rak fak ftk dyk erk tik grk ahk bek pat rat fat ftt dyt ert tit grt aht bet ik sp bo nr te9) := hD.sub [0, 1, 2, 3, 4, 5, 6, 14, 15, 16, 17, 18, 19, 20, 21, 22, 23, 24, 25, 26, 27, 7, 8, 9, 10, 11, 12, 13] (by decide) rfl
    refine W.eq (g2 := F0 mi 21 ls []) rfl ?_
    refine lv_aload_n hx hb dX3_restore_21 rfl (lv_at hl 0 rfl) ?_
    refine va_get (D := D) (ci := 3) (v := .ref a) (C := RX3) (T := TX3) (N := 10) hx hb hts iX3 hown hK.1 hP 0 rfl rfl 2 (by decide) (hts (.fieldLink RX3 28 "CloseClocks" "now" "LCloseClocks$Clocks;") (by decide +kernel)) (fun _ h9 => h9) rfl dX3_restore_22 ?_
    refine va_getN (D := D) (ci := 0) (v := .int (iI tik)) (C := RX0) (T := TX0) (N := 11) hx hb hts iX0 hown hK.1 hP 7 rfl rfl 7 (by decide) (va_Nw.use rfl (hK.2.1 (RX3, 124, RX0, "ticks", "I") (List.mem_of_getElem? (i := 12) rfl))) (fun _ h9 => h9) rfl dX3_restore_25 ?_
    refine kx_top (b := (if ik = 0 then -100000004 else tik)) (by (repeat' split) <;> first | rfl | omega | contradiction | (exfalso; simp_all; done) | (exfalso; simp_all; omega)) ?_
    exact hret (pak, rak, fak, ftk, dyk, erk, tik, grk) H locs _ _ (⟨(by (try dsimp only); (repeat' split) <;> first | rfl | omega | contradiction | (exfalso; simp_all; done) | (exfalso; simp_all; omega)), (by (try dsimp only); (repeat' split) <;> first | rfl | omega | contradiction | (exfalso; simp_all; done) | (exfalso; simp_all; omega)), (by (try dsimp only); (repeat' split) <;> first | rfl | omega | contradiction | (exfalso; simp_all; done) | (exfalso; simp_all; omega)), (by (try dsimp only); (repeat' split) <;> first | rfl | omega | contradiction | (exfalso; simp_all; done) | (exfalso; simp_all; omega)), (by (try dsimp only); (repeat' split) <;> first | rfl | omega | contradiction | (exfalso; simp_all; done) | (exfalso; simp_all; omega)), (by (try dsimp only); (repeat' split) <;> first | rfl | omega | contradiction | (exfalso; simp_all; done) | (exfalso; simp_all; omega)), (by (try dsimp only); (repeat' split) <;> first | rfl | omega | contradiction | (exfalso; simp_all; done) | (exfalso; simp_all; omega)), (by (try dsimp only); (repeat' split) <;> first | rfl | omega | contradiction | (exfalso; simp_all; done) | (exfalso; simp_all; omega))⟩) hP hD hS dX3_restore_28
  · skip
    refine kx_ldc (z := -100000004) hx hb hown (hts (.constant RX3 75 (-100000004)) (by decide +kernel)) dX3_restore_7 (by decide) ?_
    refine kx_top (b := (if ik = 0 then -100000004 else tik)) (by (repeat' split) <;> first | rfl | omega | contradiction | (exfalso; simp_all; done) | (exfalso; simp_all; omega)) ?_
    exact hret (pa, ra, fa, ft, dy, er, ti, gr) H locs _ _ (⟨(by (try dsimp only); (repeat' split) <;> first | rfl | omega | contradiction | (exfalso; simp_all; done) | (exfalso; simp_all; omega)), (by (try dsimp only); (repeat' split) <;> first | rfl | omega | contradiction | (exfalso; simp_all; done) | (exfalso; simp_all; omega)), (by (try dsimp only); (repeat' split) <;> first | rfl | omega | contradiction | (exfalso; simp_all; done) | (exfalso; simp_all; omega)), (by (try dsimp only); (repeat' split) <;> first | rfl | omega | contradiction | (exfalso; simp_all; done) | (exfalso; simp_all; omega)), (by (try dsimp only); (repeat' split) <;> first | rfl | omega | contradiction | (exfalso; simp_all; done) | (exfalso; simp_all; omega)), (by (try dsimp only); (repeat' split) <;> first | rfl | omega | contradiction | (exfalso; simp_all; done) | (exfalso; simp_all; omega)), (by (try dsimp only); (repeat' split) <;> first | rfl | omega | contradiction | (exfalso; simp_all; done) | (exfalso; simp_all; omega)), (by (try dsimp only); (repeat' split) <;> first | rfl | omega | contradiction | (exfalso; simp_all; done) | (exfalso; simp_all; omega))⟩) hP hD hS dX3_restore_9
