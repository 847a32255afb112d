def rm_X3_searchWorst : Room := ({ frames := 4, cells := 0, slots := 0, locals := 95 } : Room)
set_option maxHeartbeats 4000000 in
set_option maxRecDepth 100000 in
theorem c_X3_searchWorst (l : Launch) (D : va_G) (cI cZ : ClassId) (x p p1 n n1 n2 n3 a a1 a2 a3 a4 a5 a6 k k1 k2 k3 k4 k5 k6 t t1 t2 t3 t4 t5 t6 : Nat) (le : Int) (te : Nat → Int) (no li : Int) (dg nb wy pa ra fa ft dy er : Nat → Int) (ti gr ah be : Int) (pak rak fak ftk dyk erk : Nat → Int) (tik grk ahk bek : Int) (pat rat fat ftt dyt ert : Nat → Int) (tit grt aht bet ik sp bo nr te9 : Int) (n9 : Nat) (hn9 : n9 ≤ 12) (hpa4 : ∀ k : Nat, k < 24 → 0 ≤ pa k ∧ pa k ≤ 40000000) (hdy : ∀ k : Nat, k < 36 → 0 ≤ dy k ∧ dy k ≤ 3) (her : ∀ k : Nat, k < 36 → -9 ≤ er k ∧ er k ≤ 9) (hfa : ∀ k : Nat, k < 6 → fa k = 0 ∨ fa k = 1) (hra : ∀ k : Nat, k < 6 → 0 ≤ ra k ∧ ra k ≤ 110) (hsp : 1 ≤ sp ∧ sp ≤ 500) (hbo : 1 ≤ bo ∧ bo ≤ 60) (hno : 0 ≤ no ∧ no ≤ 6) (hwy : ∀ k : Nat, k < 36 → 0 ≤ wy k ∧ wy k ≤ 1000) (hdg : ∀ v : Nat, v < 6 → 0 ≤ dg v ∧ dg v ≤ 5) (hnb : ∀ v k : Nat, v < 6 → (k : Int) < dg v → 0 ≤ nb (v * 6 + k) ∧ nb (v * 6 + k) < 6) (hlk9 : ∃ v w : Nat, v < w ∧ (w : Int) < no ∧ wy (v * 6 + w) = 1) : kWR l yX3_searchWorst wsX3_searchWorst rm_X3_searchWorst D cI cZ [.ref x, .int (iI (n9 : Int))] (xW cI cZ x p p1 n n1 n2 n3 a a1 a2 a3 a4 a5 a6 k k1 k2 k3 k4 k5 k6 t t1 t2 t3 t4 t5 t6 le te no li dg nb wy pa ra fa ft dy er ti gr ah be pak rak fak ftk dyk erk tik grk ahk bek pat rat fat ftt dyt ert tit grt aht bet ik sp bo nr te9) (fun u : (Nat → Int) × (Nat → Int) × (Nat → Int) × (Nat → Int) × (Nat → Int) × (Nat → Int) × Int × Int × Int × Int => some (.long (pkL (xW9 dy er dg nb ra wy no sp bo pa fa n9).1 ((xW9 dy er dg nb ra wy no sp bo pa fa n9).2 : Int)))) (fun u : (Nat → Int) × (Nat → Int) × (Nat → Int) × (Nat → Int) × (Nat → Int) × (Nat → Int) × Int × Int × Int × Int => True) (fun u : (Nat → Int) × (Nat → Int) × (Nat → Int) × (Nat → Int) × (Nat → Int) × (Nat → Int) × Int × Int × Int × Int => xW cI cZ x p p1 n n1 n2 n3 a a1 a2 a3 a4 a5 a6 k k1 k2 k3 k4 k5 k6 t t1 t2 t3 t4 t5 t6 le te no li dg nb wy pa ra fa ft dy er ti gr ah be pak rak fak ftk dyk erk tik grk ahk bek u.1 u.2.1 u.2.2.1 u.2.2.2.1 u.2.2.2.2.1 u.2.2.2.2.2.1 u.2.2.2.2.2.2.1 u.2.2.2.2.2.2.2.1 u.2.2.2.2.2.2.2.2.1 u.2.2.2.2.2.2.2.2.2 ik sp bo nr te9) 0 0 := by
  refine kx_WRl (cc := cX3_searchWorst) (maxL := 6) (by decide) rfl (Nat.le_of_ble_eq_true rfl) ?_
  intro pr en s mi args below meth co Q A hx hb hml hown hts hK hin hA hP hD hS hret ls hl
  have hown : s.vm.findClass RX3 = some mi.cls := hown
  have iX3 : ∀ w ∈ wsX30, w ∈ wsX3_searchWorst := by decide +kernel
  have iX1 : ∀ w ∈ wsX10, w ∈ wsX3_searchWorst := by decide +kernel
  have hl : lv_has ls 6 [(0, .ref x), (1, .int (iI (n9 : Int)))] := hl
  generalize hH0 : s.heap = H0 at hA hP hS hret ⊢
  obtain ⟨H, hH⟩ : ∃ H : Heap, H = H0 := ⟨_, rfl⟩
  obtain ⟨locs, hlocs⟩ : ∃ locs : List Loc, locs = [] := ⟨_, rfl⟩
  have hS : va_S A H0 H locs := by rw [hH, hlocs]; exact hS
  have hP : va_P D vwCl (xW cI cZ x p p1 n n1 n2 n3 a a1 a2 a3 a4 a5 a6 k k1 k2 k3 k4 k5 k6 t t1 t2 t3 t4 t5 t6 le te no li dg nb wy pa ra fa ft dy er ti gr ah be pak rak fak ftk dyk erk tik grk ahk bek pat rat fat ftt dyt ert tit grt aht bet ik sp bo nr te9) H := by rw [hH]; exact hP
  suffices hgo : W pr l en rm_X3_searchWorst s mi args below meth co H locs 0 0 Q (F0 mi 0 ls []) by rw [hH, hlocs] at hgo; exact hgo
  clear hH hlocs
  have hpa : ∀ k : Nat, k < 24 → 0 ≤ pa k ∧ pa k ≤ 50000000 := fun k hk => by have := hpa4 k hk; omega
  obtain ⟨N2, hN2⟩ : ∃ N2 : Nat, N2 = 2 ^ no.toNat := ⟨_, rfl⟩
  have hN2le : N2 ≤ 64 := by rw [hN2]; exact Nat.le_trans (Nat.pow_le_pow_right (by omega) (show no.toNat ≤ 6 by omega)) (by decide)
  refine kx_const (z := -1) hx hb dX3_searchWorst_0 rfl ?_
  refine lv_istore_n (lv' := [(2, .int (iI (-1))), (0, .ref x), (1, .int (iI (n9 : Int)))]) hx hb dX3_searchWorst_1 rfl hl (by decide) rfl (fun ls hl => ?_)
  refine kx_const (z := 0) hx hb dX3_searchWorst_2 rfl ?_
  refine lv_istore_n (lv' := [(3, .int (iI 0)), (2, .int (iI (-1))), (0, .ref x), (1, .int (iI (n9 : Int)))]) hx hb dX3_searchWorst_3 rfl hl (by decide) rfl (fun ls hl => ?_)
  refine lv_aload_n hx hb dX3_searchWorst_4 rfl (lv_at hl 2 rfl) ?_
  refine va_get (D := D) (ci := 3) (v := .ref t) (C := RX3) (T := TX3) (N := 10) hx hb hts iX3 hown hK.1 hP 0 rfl rfl 4 (by decide) (hts (.fieldLink RX3 35 "CloseClocks" "trial" "LCloseClocks$Clocks;") (by decide +kernel)) (fun _ h9 => h9) rfl dX3_searchWorst_5 ?_
  refine lv_aload_n hx hb dX3_searchWorst_8 rfl (lv_at hl 2 rfl) ?_
  refine va_get (D := D) (ci := 3) (v := .ref a) (C := RX3) (T := TX3) (N := 10) hx hb hts iX3 hown hK.1 hP 0 rfl rfl 2 (by decide) (hts (.fieldLink RX3 28 "CloseClocks" "now" "LCloseClocks$Clocks;") (by decide +kernel)) (fun _ h9 => h9) rfl dX3_searchWorst_9 ?_
  refine kx_cVW (As := [.ref a]) (rest := []) (wr := [(x, .inr (3, [.ref p, .ref n, .ref a, .ref k, .ref t, .int (iI ik), .int (iI sp), .int (iI bo), .int (iI nr), .int (iI te9)])), (p, .inr (2, [.ref p1, .int (iI le)])), (p1, aI cI 61 te), (n, .inr (1, [.ref n1, .ref n2, .ref n3, .int (iI no), .int (iI li)])), (n1, aI cI 6 dg), (n2, aI cI 36 nb), (n3, aI cI 36 wy), (k, .inr (0, [.ref n, .ref k1, .ref k2, .ref k3, .ref k4, .ref k5, .ref k6, .int (iI tik), .int (iI grk), .int (iI ahk), .int (iI bek)])), (k1, aI cI 24 pak), (k2, aI cI 6 rak), (k3, aI cI 6 fak), (k4, aI cI 6 ftk), (k5, aI cI 36 dyk), (k6, aI cI 36 erk)]) (q0 := 0) (ci := 0) ⟨hx, hb, hml, hown, hts⟩ (c_X0_copyAll l D cI cZ t t1 t2 t3 t4 t5 t6 a a1 a2 a3 a4 a5 a6 n pat rat fat ftt dyt ert tit grt aht bet pa ra fa ft dy er ti gr ah be ) (cwV 1 hts gX3_searchWorst_X0_copyAll rfl rfl rfl (by decide +kernel) ⟨Nat.le_of_ble_eq_true rfl, Nat.le_of_ble_eq_true rfl⟩) hK hP hD hS hA [21, 22, 23, 24, 25, 26, 27, 7, 8, 9, 10, 11, 12, 13] [0, 1, 2, 3, 4, 5, 6, 14, 15, 16, 17, 18, 19, 20] rfl rfl (by decide) (by decide) (by decide) rfl rfl rfl hl.1 rfl (Nat.le_of_ble_eq_true rfl) dX3_searchWorst_12 ⟨Nat.le_of_ble_eq_true rfl, Nat.le_of_ble_eq_true rfl⟩ (fun u H locs hq hP hD hS => ?_)
  have hP : va_P D vwCl (xW cI cZ x p p1 n n1 n2 n3 a a1 a2 a3 a4 a5 a6 k k1 k2 k3 k4 k5 k6 t t1 t2 t3 t4 t5 t6 le te no li dg nb wy pa ra fa ft dy er ti gr ah be pak rak fak ftk dyk erk tik grk ahk bek pa ra fa ft dy er ti gr aht bet ik sp bo nr te9) H := hP.sub [0, 1, 2, 3, 4, 5, 6, 21, 22, 23, 24, 25, 26, 27, 7, 8, 9, 10, 11, 12, 13, 14, 15, 16, 17, 18, 19, 20] rfl
  have hD : va_D A (xW cI cZ x p p1 n n1 n2 n3 a a1 a2 a3 a4 a5 a6 k k1 k2 k3 k4 k5 k6 t t1 t2 t3 t4 t5 t6 le te no li dg nb wy pa ra fa ft dy er ti gr ah be pak rak fak ftk dyk erk tik grk ahk bek pa ra fa ft dy er ti gr aht bet ik sp bo nr te9) := hD.sub [0, 1, 2, 3, 4, 5, 6, 21, 22, 23, 24, 25, 26, 27, 7, 8, 9, 10, 11, 12, 13, 14, 15, 16, 17, 18, 19, 20] (by decide) rfl
  refine W.eq (g2 := F0 mi 15 ls []) rfl ?_
  refine kx_const (z := 0) hx hb dX3_searchWorst_15 rfl ?_
  refine lv_istore (lv' := [(4, .int (iI 0)), (3, .int (iI 0)), (2, .int (iI (-1))), (0, .ref x), (1, .int (iI (n9 : Int)))]) hx hb dX3_searchWorst_16 hl (by decide) rfl (fun ls hl => ?_)
  have L18 : ∀ (fu : Nat) (b : Nat) (g1 : Int) (w2 : Nat) (gp : Nat → Int) (gra : Nat → Int) (gf : Nat → Int) (aq : Int) (bq9 : Int), (b ≤ N2) → (g1 = (xWo dy er dg nb ra wy no sp bo pa fa n9 b).1) → (w2 = (xWo dy er dg nb ra wy no sp bo pa fa n9 b).2) → (-1 ≤ g1 ∧ g1 ≤ 50000000) → (w2 < 64) → (∀ v : Nat, ¬ v < no.toNat → gra v = ra v) → N2 - b < fu → ∀ (H : Heap) (locs : List Loc), va_P D vwCl (xW cI cZ x p p1 n n1 n2 n3 a a1 a2 a3 a4 a5 a6 k k1 k2 k3 k4 k5 k6 t t1 t2 t3 t4 t5 t6 le te no li dg nb wy pa ra fa ft dy er ti gr ah be pak rak fak ftk dyk erk tik grk ahk bek gp gra gf ft dy er ti gr aq bq9 ik sp bo nr te9) H → va_D A (xW cI cZ x p p1 n n1 n2 n3 a a1 a2 a3 a4 a5 a6 k k1 k2 k3 k4 k5 k6 t t1 t2 t3 t4 t5 t6 le te no li dg nb wy pa ra fa ft dy er ti gr ah be pak rak fak ftk dyk erk tik grk ahk bek gp gra gf ft dy er ti gr aq bq9 ik sp bo nr te9) → va_S A H0 H locs → ∀ ls : Array Slot, lv_has ls 6 [(0, .ref x), (1, .int (iI (n9 : Int))), (2, .int (iI g1)), (3, .int (iI (w2 : Int))), (4, .int (iI (b : Int)))] → W pr l en rm_X3_searchWorst s mi args below meth co H locs 0 0 Q (F0 mi 18 ls []) := by
    intro fu
    induction fu with
    | zero =>
      intro b g1 w2 gp gra gf aq bq9 hb9 hg1 hw2 hgr hw2r hgra hfu
      exact absurd hfu (Nat.not_lt_zero _)
    | succ fu ih18 =>
      intro b g1 w2 gp gra gf aq bq9 hb9 hg1 hw2 hgr hw2r hgra hfu H locs hP hD hS ls hl
      refine lv_iload hx hb dX3_searchWorst_18 (lv_at hl 4 rfl) ?_
      refine kx_const (z := 1) hx hb dX3_searchWorst_20 rfl ?_
      refine lv_aload_n hx hb dX3_searchWorst_21 rfl (lv_at hl 0 rfl) ?_
      refine va_get (D := D) (ci := 3) (v := .ref n) (C := RX3) (T := TX3) (N := 10) hx hb hts iX3 hown hK.1 hP 0 rfl rfl 1 (by decide) (hts (.fieldLink RX3 19 "CloseClocks" "shape" "LCloseClocks$Net;") (by decide +kernel)) (fun _ h9 => h9) rfl dX3_searchWorst_22 ?_
      refine va_getN (D := D) (ci := 1) (v := .int (iI no)) (C := RX1) (T := TX1) (N := 5) hx hb hts iX1 hown hK.1 hP 3 rfl rfl 3 (by decide) (va_Nw.use rfl (hK.2.1 (RX3, 83, RX1, "nodes", "I") (List.mem_of_getElem? (i := 4) rfl))) (fun _ h9 => h9) rfl dX3_searchWorst_25 ?_
      refine kx_top (b := ((no.toNat : Nat) : Int)) (by omega) ?_
      refine kx_ishl (n := 1) (w := (no.toNat)) hx hb (by omega) (by rw [Nat.one_mul, ← hN2]; omega) dX3_searchWorst_28 ?_
      refine kx_top (b := (N2 : Int)) (by rw [Nat.one_mul, hN2]) ?_
      refine kx_icmp_ge (tgt := 109) hx hb (by omega) (by omega) dX3_searchWorst_29 (by decide) (fun h29 => ?_) (fun h29 => ?_)
      · skip
        have hbe : b = 2 ^ no.toNat := by omega
        refine lv_iload_n hx hb dX3_searchWorst_109 rfl (lv_at hl 2 rfl) ?_
        refine lv_i2l (v := (Int32.toInt64 (iI g1))) hx hb dX3_searchWorst_110 rfl ?_
        refine kx_bipush (z := 6) hx hb dX3_searchWorst_111 (by decide) ?_
        refine lv_lshl (v := ((Int32.toInt64 (iI g1)) <<< (Int32.toInt64 ((iI 6)) &&& 63))) hx hb dX3_searchWorst_113 rfl ?_
        refine lv_iload_n hx hb dX3_searchWorst_114 rfl (lv_at hl 3 rfl) ?_
        refine lv_i2l (v := (Int32.toInt64 (iI (w2 : Int)))) hx hb dX3_searchWorst_115 rfl ?_
        refine lv_lor hx hb dX3_searchWorst_116 ?_
        refine kx_topl (b := (pkL (xW9 dy er dg nb ra wy no sp bo pa fa n9).1 ((xW9 dy er dg nb ra wy no sp bo pa fa n9).2 : Int))) (by rw [xW9, ← hbe, ← hg1, ← hw2]; rfl) ?_
        exact hret (gp, gra, gf, ft, dy, er, ti, gr, aq, bq9) H locs _ _ (trivial) hP hD hS dX3_searchWorst_117
      · skip
        refine lv_aload_n hx hb dX3_searchWorst_32 rfl (lv_at hl 0 rfl) ?_
        refine va_get (D := D) (ci := 3) (v := .ref t) (C := RX3) (T := TX3) (N := 10) hx hb hts iX3 hown hK.1 hP 0 rfl rfl 4 (by decide) (hts (.fieldLink RX3 35 "CloseClocks" "trial" "LCloseClocks$Clocks;") (by decide +kernel)) (fun _ h9 => h9) rfl dX3_searchWorst_33 ?_
        refine lv_aload_n hx hb dX3_searchWorst_36 rfl (lv_at hl 0 rfl) ?_
        refine va_get (D := D) (ci := 3) (v := .ref a) (C := RX3) (T := TX3) (N := 10) hx hb hts iX3 hown hK.1 hP 0 rfl rfl 2 (by decide) (hts (.fieldLink RX3 28 "CloseClocks" "now" "LCloseClocks$Clocks;") (by decide +kernel)) (fun _ h9 => h9) rfl dX3_searchWorst_37 ?_
        refine kx_cVW (As := [.ref a]) (rest := []) (wr := [(x, .inr (3, [.ref p, .ref n, .ref a, .ref k, .ref t, .int (iI ik), .int (iI sp), .int (iI bo), .int (iI nr), .int (iI te9)])), (p, .inr (2, [.ref p1, .int (iI le)])), (p1, aI cI 61 te), (n, .inr (1, [.ref n1, .ref n2, .ref n3, .int (iI no), .int (iI li)])), (n1, aI cI 6 dg), (n2, aI cI 36 nb), (n3, aI cI 36 wy), (k, .inr (0, [.ref n, .ref k1, .ref k2, .ref k3, .ref k4, .ref k5, .ref k6, .int (iI tik), .int (iI grk), .int (iI ahk), .int (iI bek)])), (k1, aI cI 24 pak), (k2, aI cI 6 rak), (k3, aI cI 6 fak), (k4, aI cI 6 ftk), (k5, aI cI 36 dyk), (k6, aI cI 36 erk)]) (q0 := 0) (ci := 0) ⟨hx, hb, hml, hown, hts⟩ (c_X0_copyMotion l D cI cZ t t1 t2 t3 t4 t5 t6 a a1 a2 a3 a4 a5 a6 n gp gra gf ft dy er ti gr aq bq9 pa ra fa ft dy er ti gr ah be ) (cwV 1 hts gX3_searchWorst_X0_copyMotion rfl rfl rfl (by decide +kernel) ⟨Nat.le_of_ble_eq_true rfl, Nat.le_of_ble_eq_true rfl⟩) hK hP hD hS hA [21, 22, 23, 24, 25, 26, 27, 7, 8, 9, 10, 11, 12, 13] [0, 1, 2, 3, 4, 5, 6, 14, 15, 16, 17, 18, 19, 20] rfl rfl (by decide) (by decide) (by decide) rfl rfl rfl hl.1 rfl (Nat.le_of_ble_eq_true rfl) dX3_searchWorst_40 ⟨Nat.le_of_ble_eq_true rfl, Nat.le_of_ble_eq_true rfl⟩ (fun u H locs hq hP hD hS => ?_)
        have hP : va_P D vwCl (xW cI cZ x p p1 n n1 n2 n3 a a1 a2 a3 a4 a5 a6 k k1 k2 k3 k4 k5 k6 t t1 t2 t3 t4 t5 t6 le te no li dg nb wy pa ra fa ft dy er ti gr ah be pak rak fak ftk dyk erk tik grk ahk bek pa gra fa ft dy er ti gr aq bq9 ik sp bo nr te9) H := hP.sub [0, 1, 2, 3, 4, 5, 6, 21, 22, 23, 24, 25, 26, 27, 7, 8, 9, 10, 11, 12, 13, 14, 15, 16, 17, 18, 19, 20] rfl
        have hD : va_D A (xW cI cZ x p p1 n n1 n2 n3 a a1 a2 a3 a4 a5 a6 k k1 k2 k3 k4 k5 k6 t t1 t2 t3 t4 t5 t6 le te no li dg nb wy pa ra fa ft dy er ti gr ah be pak rak fak ftk dyk erk tik grk ahk bek pa gra fa ft dy er ti gr aq bq9 ik sp bo nr te9) := hD.sub [0, 1, 2, 3, 4, 5, 6, 21, 22, 23, 24, 25, 26, 27, 7, 8, 9, 10, 11, 12, 13, 14, 15, 16, 17, 18, 19, 20] (by decide) rfl
        refine W.eq (g2 := F0 mi 43 ls []) rfl ?_
        refine lv_aload_n hx hb dX3_searchWorst_43 rfl (lv_at hl 0 rfl) ?_
        refine va_get (D := D) (ci := 3) (v := .ref t) (C := RX3) (T := TX3) (N := 10) hx hb hts iX3 hown hK.1 hP 0 rfl rfl 4 (by decide) (hts (.fieldLink RX3 35 "CloseClocks" "trial" "LCloseClocks$Clocks;") (by decide +kernel)) (fun _ h9 => h9) rfl dX3_searchWorst_44 ?_
        refine lv_iload hx hb dX3_searchWorst_47 (lv_at hl 4 rfl) ?_
        refine kx_cVW (As := [.int (iI (b : Int))]) (rest := []) (wr := [(x, .inr (3, [.ref p, .ref n, .ref a, .ref k, .ref t, .int (iI ik), .int (iI sp), .int (iI bo), .int (iI nr), .int (iI te9)])), (p, .inr (2, [.ref p1, .int (iI le)])), (p1, aI cI 61 te), (a, .inr (0, [.ref n, .ref a1, .ref a2, .ref a3, .ref a4, .ref a5, .ref a6, .int (iI ti), .int (iI gr), .int (iI ah), .int (iI be)])), (a1, aI cI 24 pa), (a2, aI cI 6 ra), (a3, aI cI 6 fa), (a4, aI cI 6 ft), (a5, aI cI 36 dy), (a6, aI cI 36 er), (k, .inr (0, [.ref n, .ref k1, .ref k2, .ref k3, .ref k4, .ref k5, .ref k6, .int (iI tik), .int (iI grk), .int (iI ahk), .int (iI bek)])), (k1, aI cI 24 pak), (k2, aI cI 6 rak), (k3, aI cI 6 fak), (k4, aI cI 6 ftk), (k5, aI cI 36 dyk), (k6, aI cI 36 erk)]) (q0 := 0) (ci := 0) ⟨hx, hb, hml, hown, hts⟩ (c_X0_tellRates l D cI cZ t t1 t2 t3 t4 t5 t6 n n1 n2 n3 pa gra fa ft dy er ti gr aq bq9 no li dg nb wy b (by first | assumption | omega) (by first | assumption | omega)) (cwV 1 hts gX3_searchWorst_X0_tellRates rfl rfl rfl (by decide +kernel) ⟨Nat.le_of_ble_eq_true rfl, Nat.le_of_ble_eq_true rfl⟩) hK hP hD hS hA [21, 22, 23, 24, 25, 26, 27, 3, 4, 5, 6] [0, 1, 2, 7, 8, 9, 10, 11, 12, 13, 14, 15, 16, 17, 18, 19, 20] rfl rfl (by decide) (by decide) (by decide) rfl rfl rfl hl.1 rfl (Nat.le_of_ble_eq_true rfl) dX3_searchWorst_49 ⟨Nat.le_of_ble_eq_true rfl, Nat.le_of_ble_eq_true rfl⟩ (fun u H locs hq hP hD hS => ?_)
        have hP : va_P D vwCl (xW cI cZ x p p1 n n1 n2 n3 a a1 a2 a3 a4 a5 a6 k k1 k2 k3 k4 k5 k6 t t1 t2 t3 t4 t5 t6 le te no li dg nb wy pa ra fa ft dy er ti gr ah be pak rak fak ftk dyk erk tik grk ahk bek pa (rW gra no b) fa ft dy er ti gr aq bq9 ik sp bo nr te9) H := hP.sub [0, 1, 2, 24, 25, 26, 27, 3, 4, 5, 6, 7, 8, 9, 10, 11, 12, 13, 14, 15, 16, 17, 18, 19, 20, 21, 22, 23] rfl
        have hD : va_D A (xW cI cZ x p p1 n n1 n2 n3 a a1 a2 a3 a4 a5 a6 k k1 k2 k3 k4 k5 k6 t t1 t2 t3 t4 t5 t6 le te no li dg nb wy pa ra fa ft dy er ti gr ah be pak rak fak ftk dyk erk tik grk ahk bek pa (rW gra no b) fa ft dy er ti gr aq bq9 ik sp bo nr te9) := hD.sub [0, 1, 2, 24, 25, 26, 27, 3, 4, 5, 6, 7, 8, 9, 10, 11, 12, 13, 14, 15, 16, 17, 18, 19, 20, 21, 22, 23] (by decide) rfl
        refine W.eq (g2 := F0 mi 52 ls []) rfl ?_
        have hrw := rW_eq hgra b
        rw [hrw] at hP hD
        have hP : va_P D vwCl (xW cI cZ x p p1 n n1 n2 n3 a a1 a2 a3 a4 a5 a6 k k1 k2 k3 k4 k5 k6 t t1 t2 t3 t4 t5 t6 le te no li dg nb wy pa ra fa ft dy er ti gr ah be pak rak fak ftk dyk erk tik grk ahk bek pa (rW ra no b) fa ft dy er ti gr aq bq9 ik sp bo nr te9) H := hP
        have hD : va_D A (xW cI cZ x p p1 n n1 n2 n3 a a1 a2 a3 a4 a5 a6 k k1 k2 k3 k4 k5 k6 t t1 t2 t3 t4 t5 t6 le te no li dg nb wy pa ra fa ft dy er ti gr ah be pak rak fak ftk dyk erk tik grk ahk bek pa (rW ra no b) fa ft dy er ti gr aq bq9 ik sp bo nr te9) := hD
        refine kx_const (z := 0) hx hb dX3_searchWorst_52 rfl ?_
        refine lv_istore (lv' := [(5, .int (iI 0)), (0, .ref x), (1, .int (iI (n9 : Int))), (2, .int (iI g1)), (3, .int (iI (w2 : Int))), (4, .int (iI (b : Int)))]) hx hb dX3_searchWorst_53 hl (by decide) rfl (fun ls hl => ?_)
        have L55 : ∀ (fu : Nat) (i : Nat) (aq2 : Int) (bq2 : Int), (i ≤ n9) → n9 - i < fu → ∀ (H : Heap) (locs : List Loc), va_P D vwCl (xW cI cZ x p p1 n n1 n2 n3 a a1 a2 a3 a4 a5 a6 k k1 k2 k3 k4 k5 k6 t t1 t2 t3 t4 t5 t6 le te no li dg nb wy pa ra fa ft dy er ti gr ah be pak rak fak ftk dyk erk tik grk ahk bek ((xIS dy er dg nb (rW ra no b) no sp bo pa fa i).1) (rW ra no b) ((xIS dy er dg nb (rW ra no b) no sp bo pa fa i).2) ft dy er ti gr aq2 bq2 ik sp bo nr te9) H → va_D A (xW cI cZ x p p1 n n1 n2 n3 a a1 a2 a3 a4 a5 a6 k k1 k2 k3 k4 k5 k6 t t1 t2 t3 t4 t5 t6 le te no li dg nb wy pa ra fa ft dy er ti gr ah be pak rak fak ftk dyk erk tik grk ahk bek ((xIS dy er dg nb (rW ra no b) no sp bo pa fa i).1) (rW ra no b) ((xIS dy er dg nb (rW ra no b) no sp bo pa fa i).2) ft dy er ti gr aq2 bq2 ik sp bo nr te9) → va_S A H0 H locs → ∀ ls : Array Slot, lv_has ls 6 [(0, .ref x), (1, .int (iI (n9 : Int))), (2, .int (iI g1)), (3, .int (iI (w2 : Int))), (4, .int (iI (b : Int))), (5, .int (iI (i : Int)))] → W pr l en rm_X3_searchWorst s mi args below meth co H locs 0 0 Q (F0 mi 55 ls []) := by
          intro fu
          induction fu with
          | zero =>
            intro i aq2 bq2 hi hfu
            exact absurd hfu (Nat.not_lt_zero _)
          | succ fu ih55 =>
            intro i aq2 bq2 hi hfu H locs hP hD hS ls hl
            have hbi := xIS_bd (dy := dy) (er := er) (dg := dg) (nb := nb) (no := no) (sp := sp) hpa4 hfa (rW_bd (nd := no) (b := b) hra) hbo i
            have hci : ∀ k : Nat, k < 24 → 0 ≤ (xIS dy er dg nb (rW ra no b) no sp bo pa fa i).1 k ∧ (xIS dy er dg nb (rW ra no b) no sp bo pa fa i).1 k ≤ 50000000 := fun k hk => by have := hbi.1 k hk; omega
            refine lv_iload hx hb dX3_searchWorst_55 (lv_at hl 5 rfl) ?_
            refine lv_iload_n hx hb dX3_searchWorst_57 rfl (lv_at hl 1 rfl) ?_
            refine kx_icmp_ge (tgt := 82) hx hb (by omega) (by omega) dX3_searchWorst_58 (by decide) (fun h58 => ?_) (fun h58 => ?_)
            · skip
              have hie : i = n9 := by omega
              have hlw := xSp_rng (wy := wy) (z := 1) hci hno
              have hWl : xSp (xIS dy er dg nb (rW ra no b) no sp bo pa fa i).1 wy no 1 = xWl dy er dg nb ra wy no sp bo pa fa n9 b := by rw [hie]; rfl
              refine lv_aload_n hx hb dX3_searchWorst_82 rfl (lv_at hl 0 rfl) ?_
              refine va_get (D := D) (ci := 3) (v := .ref t) (C := RX3) (T := TX3) (N := 10) hx hb hts iX3 hown hK.1 hP 0 rfl rfl 4 (by decide) (hts (.fieldLink RX3 35 "CloseClocks" "trial" "LCloseClocks$Clocks;") (by decide +kernel)) (fun _ h9 => h9) rfl dX3_searchWorst_83 ?_
              refine kx_cV (As := []) (rest := []) (st1 := [.int (iI (xSp (xIS dy er dg nb (rW ra no b) no sp bo pa fa i).1 wy no 1))]) (q0 := 0) (ci := 0) ⟨hx, hb, hml, hown, hts⟩ (c_X0_localSkew l D cI cZ t t1 t2 t3 t4 t5 t6 n n1 n2 n3 ((xIS dy er dg nb (rW ra no b) no sp bo pa fa i).1) (rW ra no b) ((xIS dy er dg nb (rW ra no b) no sp bo pa fa i).2) ft dy er ti gr aq2 bq2 no li dg nb wy (by first | assumption | omega) (hci) (by first | assumption | omega)) (cwV 0 hts gX3_searchWorst_X0_localSkew rfl rfl rfl (by decide +kernel) ⟨Nat.le_of_ble_eq_true rfl, Nat.le_of_ble_eq_true rfl⟩) hK (hP.sub (ws' := ckW cI cZ t t1 t2 t3 t4 t5 t6 n n1 n2 n3 ((xIS dy er dg nb (rW ra no b) no sp bo pa fa i).1) (rW ra no b) ((xIS dy er dg nb (rW ra no b) no sp bo pa fa i).2) ft dy er ti gr aq2 bq2 no li dg nb wy) [21, 22, 23, 24, 25, 26, 27, 3, 4, 5, 6] rfl) rfl rfl rfl hl.1 rfl (Nat.le_of_ble_eq_true rfl) dX3_searchWorst_86 ⟨Nat.zero_le _, Nat.zero_le _⟩ rfl ?_
              refine lv_istore (lv' := [(5, .int (iI (xSp (xIS dy er dg nb (rW ra no b) no sp bo pa fa i).1 wy no 1))), (0, .ref x), (1, .int (iI (n9 : Int))), (2, .int (iI g1)), (3, .int (iI (w2 : Int))), (4, .int (iI (b : Int)))]) hx hb dX3_searchWorst_89 hl (by decide) rfl (fun ls hl => ?_)
              refine lv_iload hx hb dX3_searchWorst_91 (lv_at hl 0 rfl) ?_
              refine lv_iload_n hx hb dX3_searchWorst_93 rfl (lv_at hl 3 rfl) ?_
              refine kx_icmp_le (tgt := 103) hx hb (by omega) (by omega) dX3_searchWorst_94 (by decide) (fun h94 => ?_) (fun h94 => ?_)
              · skip
                refine kx_iinc (z := ((b + 1 : Nat) : Int)) (lv' := [(4, .int (iI ((b + 1 : Nat) : Int))), (5, .int (iI (xSp (xIS dy er dg nb (rW ra no b) no sp bo pa fa i).1 wy no 1))), (0, .ref x), (1, .int (iI (n9 : Int))), (2, .int (iI g1)), (3, .int (iI (w2 : Int)))]) hx hb dX3_searchWorst_103 hl (k0 := 5) rfl (by omega) (by decide) rfl (fun ls hl => ?_)
                refine lv_goto (tgt := 18) hx hb dX3_searchWorst_106 (by decide) ?_
                exact ih18 (b + 1) g1 w2 ((xIS dy er dg nb (rW ra no b) no sp bo pa fa i).1) (rW ra no b) ((xIS dy er dg nb (rW ra no b) no sp bo pa fa i).2) aq2 bq2 (by first | assumption | omega) (by rw [xWo]; first | (rw [if_pos (by omega)]; exact hWl) | (rw [if_neg (by omega)]; exact hg1)) (by rw [xWo]; first | (rw [if_pos (by omega)]; done) | (rw [if_neg (by omega)]; exact hw2)) (by first | assumption | omega) (by first | assumption | omega) (fun v hv => by unfold rW; rw [if_neg hv]) (by omega) H locs hP hD hS ls (lv_sub hl [2, 3, 4, 5, 0] rfl)
              · skip
                refine lv_iload hx hb dX3_searchWorst_97 (lv_at hl 0 rfl) ?_
                refine lv_istore_n (lv' := [(2, .int (iI (xSp (xIS dy er dg nb (rW ra no b) no sp bo pa fa i).1 wy no 1))), (5, .int (iI (xSp (xIS dy er dg nb (rW ra no b) no sp bo pa fa i).1 wy no 1))), (0, .ref x), (1, .int (iI (n9 : Int))), (3, .int (iI (w2 : Int))), (4, .int (iI (b : Int)))]) hx hb dX3_searchWorst_99 rfl hl (by decide) rfl (fun ls hl => ?_)
                refine lv_iload hx hb dX3_searchWorst_100 (lv_at hl 5 rfl) ?_
                refine lv_istore_n (lv' := [(3, .int (iI (b : Int))), (2, .int (iI (xSp (xIS dy er dg nb (rW ra no b) no sp bo pa fa i).1 wy no 1))), (5, .int (iI (xSp (xIS dy er dg nb (rW ra no b) no sp bo pa fa i).1 wy no 1))), (0, .ref x), (1, .int (iI (n9 : Int))), (4, .int (iI (b : Int)))]) hx hb dX3_searchWorst_102 rfl hl (by decide) rfl (fun ls hl => ?_)
                refine kx_iinc (z := ((b + 1 : Nat) : Int)) (lv' := [(4, .int (iI ((b + 1 : Nat) : Int))), (3, .int (iI (b : Int))), (2, .int (iI (xSp (xIS dy er dg nb (rW ra no b) no sp bo pa fa i).1 wy no 1))), (5, .int (iI (xSp (xIS dy er dg nb (rW ra no b) no sp bo pa fa i).1 wy no 1))), (0, .ref x), (1, .int (iI (n9 : Int)))]) hx hb dX3_searchWorst_103 hl (k0 := 5) rfl (by omega) (by decide) rfl (fun ls hl => ?_)
                refine lv_goto (tgt := 18) hx hb dX3_searchWorst_106 (by decide) ?_
                exact ih18 (b + 1) (xSp (xIS dy er dg nb (rW ra no b) no sp bo pa fa i).1 wy no 1) b ((xIS dy er dg nb (rW ra no b) no sp bo pa fa i).1) (rW ra no b) ((xIS dy er dg nb (rW ra no b) no sp bo pa fa i).2) aq2 bq2 (by first | assumption | omega) (by rw [xWo]; first | (rw [if_pos (by omega)]; exact hWl) | (rw [if_neg (by omega)]; exact hg1)) (by rw [xWo]; first | (rw [if_pos (by omega)]; done) | (rw [if_neg (by omega)]; exact hw2)) (by first | assumption | omega) (by first | assumption | omega) (fun v hv => by unfold rW; rw [if_neg hv]) (by omega) H locs hP hD hS ls (lv_sub hl [4, 5, 2, 1, 0] rfl)
            · skip
              refine lv_aload_n hx hb dX3_searchWorst_61 rfl (lv_at hl 0 rfl) ?_
              refine va_get (D := D) (ci := 3) (v := .ref t) (C := RX3) (T := TX3) (N := 10) hx hb hts iX3 hown hK.1 hP 0 rfl rfl 4 (by decide) (hts (.fieldLink RX3 35 "CloseClocks" "trial" "LCloseClocks$Clocks;") (by decide +kernel)) (fun _ h9 => h9) rfl dX3_searchWorst_62 ?_
              refine lv_aload_n hx hb dX3_searchWorst_65 rfl (lv_at hl 0 rfl) ?_
              refine va_get (D := D) (ci := 3) (v := .int (iI sp)) (C := RX3) (T := TX3) (N := 10) hx hb hts iX3 hown hK.1 hP 0 rfl rfl 6 (by decide) (hts (.fieldLink RX3 42 "CloseClocks" "step" "I") (by decide +kernel)) (fun _ h9 => h9) rfl dX3_searchWorst_66 ?_
              refine lv_aload_n hx hb dX3_searchWorst_69 rfl (lv_at hl 0 rfl) ?_
              refine va_get (D := D) (ci := 3) (v := .int (iI bo)) (C := RX3) (T := TX3) (N := 10) hx hb hts iX3 hown hK.1 hP 0 rfl rfl 7 (by decide) (hts (.fieldLink RX3 46 "CloseClocks" "boost" "I") (by decide +kernel)) (fun _ h9 => h9) rfl dX3_searchWorst_70 ?_
              refine kx_cVW (As := [.int (iI sp), .int (iI bo)]) (rest := []) (wr := [(x, .inr (3, [.ref p, .ref n, .ref a, .ref k, .ref t, .int (iI ik), .int (iI sp), .int (iI bo), .int (iI nr), .int (iI te9)])), (p, .inr (2, [.ref p1, .int (iI le)])), (p1, aI cI 61 te), (a, .inr (0, [.ref n, .ref a1, .ref a2, .ref a3, .ref a4, .ref a5, .ref a6, .int (iI ti), .int (iI gr), .int (iI ah), .int (iI be)])), (a1, aI cI 24 pa), (a2, aI cI 6 ra), (a3, aI cI 6 fa), (a4, aI cI 6 ft), (a5, aI cI 36 dy), (a6, aI cI 36 er), (k, .inr (0, [.ref n, .ref k1, .ref k2, .ref k3, .ref k4, .ref k5, .ref k6, .int (iI tik), .int (iI grk), .int (iI ahk), .int (iI bek)])), (k1, aI cI 24 pak), (k2, aI cI 6 rak), (k3, aI cI 6 fak), (k4, aI cI 6 ftk), (k5, aI cI 36 dyk), (k6, aI cI 36 erk)]) (q0 := 0) (ci := 0) ⟨hx, hb, hml, hown, hts⟩ (c_X0_move l D cI cZ t t1 t2 t3 t4 t5 t6 n n1 n2 n3 ((xIS dy er dg nb (rW ra no b) no sp bo pa fa i).1) (rW ra no b) ((xIS dy er dg nb (rW ra no b) no sp bo pa fa i).2) ft dy er ti gr aq2 bq2 no li dg nb wy sp bo (by first | assumption | omega) (hci) (by first | assumption | omega) (by first | assumption | omega) (by first | assumption | omega) (by first | assumption | omega) (by first | assumption | omega)) (cwV 2 hts gX3_searchWorst_X0_move rfl rfl rfl (by decide +kernel) ⟨Nat.le_of_ble_eq_true rfl, Nat.le_of_ble_eq_true rfl⟩) hK hP hD hS hA [21, 22, 23, 24, 25, 26, 27, 3, 4, 5, 6] [0, 1, 2, 7, 8, 9, 10, 11, 12, 13, 14, 15, 16, 17, 18, 19, 20] rfl rfl (by decide) (by decide) (by decide) rfl rfl rfl hl.1 rfl (Nat.le_of_ble_eq_true rfl) dX3_searchWorst_73 ⟨Nat.le_of_ble_eq_true rfl, Nat.le_of_ble_eq_true rfl⟩ (fun u H locs hq hP hD hS => ?_)
              obtain ⟨u_1, u_2⟩ := u
              have hP : va_P D vwCl (xW cI cZ x p p1 n n1 n2 n3 a a1 a2 a3 a4 a5 a6 k k1 k2 k3 k4 k5 k6 t t1 t2 t3 t4 t5 t6 le te no li dg nb wy pa ra fa ft dy er ti gr ah be pak rak fak ftk dyk erk tik grk ahk bek (xPa (xIS dy er dg nb (rW ra no b) no sp bo pa fa i).1 (rW ra no b) (xIS dy er dg nb (rW ra no b) no sp bo pa fa i).2 dy er dg nb no sp bo) (rW ra no b) (xFa (xIS dy er dg nb (rW ra no b) no sp bo pa fa i).1 (xIS dy er dg nb (rW ra no b) no sp bo pa fa i).2 dy er dg nb no sp) ft dy er ti gr u_1 u_2 ik sp bo nr te9) H := hP.sub [0, 1, 2, 24, 25, 26, 27, 3, 4, 5, 6, 7, 8, 9, 10, 11, 12, 13, 14, 15, 16, 17, 18, 19, 20, 21, 22, 23] rfl
              have hD : va_D A (xW cI cZ x p p1 n n1 n2 n3 a a1 a2 a3 a4 a5 a6 k k1 k2 k3 k4 k5 k6 t t1 t2 t3 t4 t5 t6 le te no li dg nb wy pa ra fa ft dy er ti gr ah be pak rak fak ftk dyk erk tik grk ahk bek (xPa (xIS dy er dg nb (rW ra no b) no sp bo pa fa i).1 (rW ra no b) (xIS dy er dg nb (rW ra no b) no sp bo pa fa i).2 dy er dg nb no sp bo) (rW ra no b) (xFa (xIS dy er dg nb (rW ra no b) no sp bo pa fa i).1 (xIS dy er dg nb (rW ra no b) no sp bo pa fa i).2 dy er dg nb no sp) ft dy er ti gr u_1 u_2 ik sp bo nr te9) := hD.sub [0, 1, 2, 24, 25, 26, 27, 3, 4, 5, 6, 7, 8, 9, 10, 11, 12, 13, 14, 15, 16, 17, 18, 19, 20, 21, 22, 23] (by decide) rfl
              refine W.eq (g2 := F0 mi 76 ls []) rfl ?_
              refine kx_iinc (z := ((i + 1 : Nat) : Int)) (lv' := [(5, .int (iI ((i + 1 : Nat) : Int))), (0, .ref x), (1, .int (iI (n9 : Int))), (2, .int (iI g1)), (3, .int (iI (w2 : Int))), (4, .int (iI (b : Int)))]) hx hb dX3_searchWorst_76 hl (k0 := 5) rfl (by omega) (by decide) rfl (fun ls hl => ?_)
              refine lv_goto (tgt := 55) hx hb dX3_searchWorst_79 (by decide) ?_
              exact ih55 (i + 1) u_1 u_2 (by first | assumption | omega) (by omega) H locs hP hD hS ls (lv_sub hl [1, 2, 3, 4, 5, 0] rfl)
        exact L55 (n9 - 0 + 1) 0 aq bq9 (by first | assumption | omega) (Nat.lt_succ_self _) H locs hP hD hS ls (lv_sub hl [1, 2, 3, 4, 5, 0] rfl)
  exact L18 (N2 - 0 + 1) 0 (-1) 0 pa ra fa aht bet (by first | assumption | omega) (rfl) (rfl) (by first | assumption | omega) (by first | assumption | omega) (fun v _ => rfl) (Nat.lt_succ_self _) H locs hP hD hS ls (lv_sub hl [3, 4, 2, 1, 0] rfl)
def rm_X3_skewOfWorst : Room := ({ frames := 0, cells := 0, slots := 0, locals := 0 } : Room)
set_option maxHeartbeats 4000000 in
set_option maxRecDepth 100000 in
theorem c_X3_skewOfWorst (l : Launch) (D : va_G) (cI cZ : ClassId)  (g b : Int) (hg : 0 ≤ g ∧ g < 100000000) (hb9 : 0 ≤ b ∧ b < 64) : kRO l yX3_skewOfWorst wsX3_skewOfWorst rm_X3_skewOfWorst D cI cZ [.long (pkL g b)] ([]) (some (.int (iI g))) := by
  refine kx_ROi (cc := cX3_skewOfWorst) (maxL := 2) (by decide) rfl (Nat.le_of_ble_eq_true rfl) ?_
  intro pr en s mi args below meth co Q hx hb hml hown hts hK hP hret ls hl
  have hown : s.vm.findClass RX3 = some mi.cls := hown
  have hl : lv_has ls 2 [(0, .long (pkL g b))] := hl
  refine lv_lload_n hx hb dX3_skewOfWorst_0 rfl (lv_at hl 0 rfl) ?_
  refine kx_bipush (z := 6) hx hb dX3_skewOfWorst_1 (by decide) ?_
  refine lv_lshr (v := ((pkL g b) >>> (Int32.toInt64 ((iI 6)) &&& 63))) hx hb dX3_skewOfWorst_3 rfl ?_
  refine lv_l2i (v := iI g) hx hb dX3_skewOfWorst_4 (pkL_g hg hb9) ?_
  exact hret _ _ dX3_skewOfWorst_5
def rm_X3_nodesOfWorst : Room := ({ frames := 0, cells := 0, slots := 0, locals := 0 } : Room)
set_option maxHeartbeats 4000000 in
set_option maxRecDepth 100000 in
theorem c_X3_nodesOfWorst (l : Launch) (D : va_G) (cI cZ : ClassId)  (g b : Int) (hg : 0 ≤ g ∧ g < 100000000) (hb9 : 0 ≤ b ∧ b < 64) : kRO l yX3_nodesOfWorst wsX3_nodesOfWorst rm_X3_nodesOfWorst D cI cZ [.long (pkL g b)] ([]) (some (.int (iI b))) := by
  refine kx_ROi (cc := cX3_nodesOfWorst) (maxL := 2) (by decide) rfl (Nat.le_of_ble_eq_true rfl) ?_
  intro pr en s mi args below meth co Q hx hb hml hown hts hK hP hret ls hl
  have hown : s.vm.findClass RX3 = some mi.cls := hown
  have hl : lv_has ls 2 [(0, .long (pkL g b))] := hl
  refine lv_lload_n hx hb dX3_nodesOfWorst_0 rfl (lv_at hl 0 rfl) ?_
  refine lv_ldc2 (v := 63) hx hb hown (hts (.constantLong RX3 250 (63)) (by decide +kernel)) dX3_nodesOfWorst_1 ?_
  refine lv_land hx hb dX3_nodesOfWorst_4 ?_
  refine lv_l2i (v := iI b) hx hb dX3_nodesOfWorst_5 (pkL_b hg hb9) ?_
  exact hret _ _ dX3_nodesOfWorst_6
def rm_X3_worst : Room := ({ frames := 5, cells := 0, slots := 0, locals := 120 } : Room)
set_option maxHeartbeats 4000000 in
set_option maxRecDepth 100000 in
theorem c_X3_worst (l : Launch) (D : va_G) (cI cZ : ClassId) (x p p1 n n1 n2 n3 a a1 a2 a3 a4 a5 a6 k k1 k2 k3 k4 k5 k6 t t1 t2 t3 t4 t5 t6 : Nat) (le : Int) (te : Nat → Int) (no li : Int) (dg nb wy pa ra fa ft dy er : Nat → Int) (ti gr ah be : Int) (pak rak fak ftk dyk erk : Nat → Int) (tik grk ahk bek : Int) (pat rat fat ftt dyt ert : Nat → Int) (tit grt aht bet ik sp bo nr te9 : Int) (z q : Int) (hpa4 : ∀ k : Nat, k < 24 → 0 ≤ pa k ∧ pa k ≤ 40000000) (hdy : ∀ k : Nat, k < 36 → 0 ≤ dy k ∧ dy k ≤ 3) (her : ∀ k : Nat, k < 36 → -9 ≤ er k ∧ er k ≤ 9) (hfa : ∀ k : Nat, k < 6 → fa k = 0 ∨ fa k = 1) (hra : ∀ k : Nat, k < 6 → 0 ≤ ra k ∧ ra k ≤ 110) (hsp : 1 ≤ sp ∧ sp ≤ 500) (hbo : 1 ≤ bo ∧ bo ≤ 60) (hno : 0 ≤ no ∧ no ≤ 6) (hwy : ∀ k : Nat, k < 36 → 0 ≤ wy k ∧ wy k ≤ 1000) (hdg : ∀ v : Nat, v < 6 → 0 ≤ dg v ∧ dg v ≤ 5) (hnb : ∀ v k : Nat, v < 6 → (k : Int) < dg v → 0 ≤ nb (v * 6 + k) ∧ nb (v * 6 + k) < 6) (hlk8 : 0 < no → ∃ v w : Nat, v < w ∧ (w : Int) < no ∧ wy (v * 6 + w) = 1) (hz : -2147483648 ≤ z ∧ z < 2147483648) (hq : -2147483648 ≤ q ∧ q < 2147483648) : kWR l yX3_worst wsX3_worst rm_X3_worst D cI cZ [.ref x, .int (iI z), .int (iI q)] (xW cI cZ x p p1 n n1 n2 n3 a a1 a2 a3 a4 a5 a6 k k1 k2 k3 k4 k5 k6 t t1 t2 t3 t4 t5 t6 le te no li dg nb wy pa ra fa ft dy er ti gr ah be pak rak fak ftk dyk erk tik grk ahk bek pat rat fat ftt dyt ert tit grt aht bet ik sp bo nr te9) (fun u : (Nat → Int) × (Nat → Int) × (Nat → Int) × (Nat → Int) × (Nat → Int) × (Nat → Int) × Int × Int × Int × Int => some (.int (iI (if ¬ ((1 ≤ z ∧ z ≤ 12) ∧ (0 ≤ q ∧ q ≤ 1)) then -100000003 else if ¬ 0 < no then -100000004 else if q = 0 then (xW9 dy er dg nb ra wy no sp bo pa fa z.toNat).1 else ((xW9 dy er dg nb ra wy no sp bo pa fa z.toNat).2 : Int))))) (fun u : (Nat → Int) × (Nat → Int) × (Nat → Int) × (Nat → Int) × (Nat → Int) × (Nat → Int) × Int × Int × Int × Int => True) (fun u : (Nat → Int) × (Nat → Int) × (Nat → Int) × (Nat → Int) × (Nat → Int) × (Nat → Int) × Int × Int × Int × Int => xW cI cZ x p p1 n n1 n2 n3 a a1 a2 a3 a4 a5 a6 k k1 k2 k3 k4 k5 k6 t t1 t2 t3 t4 t5 t6 le te no li dg nb wy pa ra fa ft dy er ti gr ah be pak rak fak ftk dyk erk tik grk ahk bek u.1 u.2.1 u.2.2.1 u.2.2.2.1 u.2.2.2.2.1 u.2.2.2.2.2.1 u.2.2.2.2.2.2.1 u.2.2.2.2.2.2.2.1 u.2.2.2.2.2.2.2.2.1 u.2.2.2.2.2.2.2.2.2 ik sp bo nr te9) 0 0 := by
  refine kx_WRi (cc := cX3_worst) (maxL := 5) (by decide) rfl (Nat.le_of_ble_eq_true rfl) ?_
  intro pr en s mi args below meth co Q A hx hb hml hown hts hK hin hA hP hD hS hret ls hl
  have hown : s.vm.findClass RX3 = some mi.cls := hown
  have iX3 : ∀ w ∈ wsX30, w ∈ wsX3_worst := by decide +kernel
  have hl : lv_has ls 5 [(0, .ref x), (1, .int (iI z)), (2, .int (iI q))] := hl
  generalize hH0 : s.heap = H0 at hA hP hS hret ⊢
  obtain ⟨H, hH⟩ : ∃ H : Heap, H = H0 := ⟨_, rfl⟩
  obtain ⟨locs, hlocs⟩ : ∃ locs : List Loc, locs = [] := ⟨_, rfl⟩
  have hS : va_S A H0 H locs := by rw [hH, hlocs]; exact hS
  have hP : va_P D vwCl (xW cI cZ x p p1 n n1 n2 n3 a a1 a2 a3 a4 a5 a6 k k1 k2 k3 k4 k5 k6 t t1 t2 t3 t4 t5 t6 le te no li dg nb wy pa ra fa ft dy er ti gr ah be pak rak fak ftk dyk erk tik grk ahk bek pat rat fat ftt dyt ert tit grt aht bet ik sp bo nr te9) H := by rw [hH]; exact hP
  suffices hgo : W pr l en rm_X3_worst s mi args below meth co H locs 0 0 Q (F0 mi 0 ls []) by rw [hH, hlocs] at hgo; exact hgo
  clear hH hlocs
  refine lv_iload_n hx hb dX3_worst_0 rfl (lv_at hl 1 rfl) ?_
  refine kx_const (z := 1) hx hb dX3_worst_1 rfl ?_
  refine kx_icmp_lt (tgt := 20) hx hb (by omega) (by omega) dX3_worst_2 (by decide) (fun h2 => ?_) (fun h2 => ?_)
  · skip
    refine kx_ldc (z := -100000003) hx hb hown (hts (.constant RX3 55 (-100000003)) (by decide +kernel)) dX3_worst_20 (by decide) ?_
    refine kx_top (b := (if ¬ ((1 ≤ z ∧ z ≤ 12) ∧ (0 ≤ q ∧ q ≤ 1)) then -100000003 else if ¬ 0 < no then -100000004 else if q = 0 then (xW9 dy er dg nb ra wy no sp bo pa fa z.toNat).1 else ((xW9 dy er dg nb ra wy no sp bo pa fa z.toNat).2 : Int))) (by (repeat' split) <;> first | rfl | omega | contradiction) ?_
    exact hret (pat, rat, fat, ftt, dyt, ert, tit, grt, aht, bet) H locs _ _ (trivial) hP hD hS dX3_worst_22
  · skip
    refine lv_iload_n hx hb dX3_worst_5 rfl (lv_at hl 1 rfl) ?_
    refine kx_bipush (z := 12) hx hb dX3_worst_6 (by decide) ?_
    refine kx_icmp_gt (tgt := 20) hx hb (by omega) (by omega) dX3_worst_8 (by decide) (fun h8 => ?_) (fun h8 => ?_)
    · skip
      refine kx_ldc (z := -100000003) hx hb hown (hts (.constant RX3 55 (-100000003)) (by decide +kernel)) dX3_worst_20 (by decide) ?_
      refine kx_top (b := (if ¬ ((1 ≤ z ∧ z ≤ 12) ∧ (0 ≤ q ∧ q ≤ 1)) then -100000003 else if ¬ 0 < no then -100000004 else if q = 0 then (xW9 dy er dg nb ra wy no sp bo pa fa z.toNat).1 else ((xW9 dy er dg nb ra wy no sp bo pa fa z.toNat).2 : Int))) (by (repeat' split) <;> first | rfl | omega | contradiction) ?_
      exact hret (pat, rat, fat, ftt, dyt, ert, tit, grt, aht, bet) H locs _ _ (trivial) hP hD hS dX3_worst_22
    · skip
      refine lv_iload_n hx hb dX3_worst_11 rfl (lv_at hl 2 rfl) ?_
      refine kx_if_lt (tgt := 20) hx hb (by omega) dX3_worst_12 (by decide) (fun h12 => ?_) (fun h12 => ?_)
      · skip
        refine kx_ldc (z := -100000003) hx hb hown (hts (.constant RX3 55 (-100000003)) (by decide +kernel)) dX3_worst_20 (by decide) ?_
        refine kx_top (b := (if ¬ ((1 ≤ z ∧ z ≤ 12) ∧ (0 ≤ q ∧ q ≤ 1)) then -100000003 else if ¬ 0 < no then -100000004 else if q = 0 then (xW9 dy er dg nb ra wy no sp bo pa fa z.toNat).1 else ((xW9 dy er dg nb ra wy no sp bo pa fa z.toNat).2 : Int))) (by (repeat' split) <;> first | rfl | omega | contradiction) ?_
        exact hret (pat, rat, fat, ftt, dyt, ert, tit, grt, aht, bet) H locs _ _ (trivial) hP hD hS dX3_worst_22
      · skip
        refine lv_iload_n hx hb dX3_worst_15 rfl (lv_at hl 2 rfl) ?_
        refine kx_const (z := 1) hx hb dX3_worst_16 rfl ?_
        refine kx_icmp_le (tgt := 23) hx hb (by omega) (by omega) dX3_worst_17 (by decide) (fun h17 => ?_) (fun h17 => ?_)
        · skip
          refine lv_aload_n hx hb dX3_worst_23 rfl (lv_at hl 0 rfl) ?_
          refine va_get (D := D) (ci := 3) (v := .ref n) (C := RX3) (T := TX3) (N := 10) hx hb hts iX3 hown hK.1 hP 0 rfl rfl 1 (by decide) (hts (.fieldLink RX3 19 "CloseClocks" "shape" "LCloseClocks$Net;") (by decide +kernel)) (fun _ h9 => h9) rfl dX3_worst_24 ?_
          refine kx_cV (As := []) (rest := []) (st1 := [.int (iI (if (0 < no) then 1 else 0))]) (q0 := 0) (ci := 1) ⟨hx, hb, hml, hown, hts⟩ (c_X1_isRead l D cI cZ n n1 n2 n3 no li dg nb wy (by first | assumption | omega)) (cwV 0 hts gX3_worst_X1_isRead rfl rfl rfl (by decide +kernel) ⟨Nat.le_of_ble_eq_true rfl, Nat.le_of_ble_eq_true rfl⟩) hK (hP.sub (ws' := ntW cI cZ n n1 n2 n3 no li dg nb wy) [3, 4, 5, 6] rfl) rfl rfl rfl hl.1 rfl (Nat.le_of_ble_eq_true rfl) dX3_worst_27 ⟨Nat.zero_le _, Nat.zero_le _⟩ rfl ?_
          refine kx_if_neB (tgt := 36) hx hb dX3_worst_30 (by decide) (fun h30 => ?_) (fun h30 => ?_)
          · skip
            have hlk9 := hlk8 (by omega)
            have hwb := xW9_bd (dy := dy) (er := er) (dg := dg) (nb := nb) (sp := sp) z.toNat (by omega) hpa4 hfa hra hbo hno hlk9
            refine lv_aload_n hx hb dX3_worst_36 rfl (lv_at hl 0 rfl) ?_
            refine lv_iload_n hx hb dX3_worst_37 rfl (lv_at hl 1 rfl) ?_
            refine kx_top (b := ((z.toNat : Nat) : Int)) (by omega) ?_
            refine kx_cVW (As := [.int (iI ((z.toNat : Nat) : Int))]) (rest := []) (wr := []) (q0 := 0) (ci := 3) ⟨hx, hb, hml, hown, hts⟩ (c_X3_searchWorst l D cI cZ x p p1 n n1 n2 n3 a a1 a2 a3 a4 a5 a6 k k1 k2 k3 k4 k5 k6 t t1 t2 t3 t4 t5 t6 le te no li dg nb wy pa ra fa ft dy er ti gr ah be pak rak fak ftk dyk erk tik grk ahk bek pat rat fat ftt dyt ert tit grt aht bet ik sp bo nr te9 (z.toNat) (by first | assumption | omega) (by first | assumption | omega) (by first | assumption | omega) (by first | assumption | omega) (by first | assumption | omega) (by first | assumption | omega) (by first | assumption | omega) (by first | assumption | omega) (by first | assumption | omega) (by first | assumption | omega) (by first | assumption | omega) (by first | assumption | omega) (by first | assumption | omega)) (cwV 1 hts gX3_worst_X3_searchWorst rfl rfl rfl (by decide +kernel) ⟨Nat.le_of_ble_eq_true rfl, Nat.le_of_ble_eq_true rfl⟩) hK hP hD hS hA [0, 1, 2, 3, 4, 5, 6, 7, 8, 9, 10, 11, 12, 13, 14, 15, 16, 17, 18, 19, 20, 21, 22, 23, 24, 25, 26, 27] [] rfl rfl (by decide) (by decide) (by decide) rfl rfl rfl hl.1 rfl (Nat.le_of_ble_eq_true rfl) dX3_worst_38 ⟨Nat.le_of_ble_eq_true rfl, Nat.le_of_ble_eq_true rfl⟩ (fun u H locs hq hP hD hS => ?_)
            obtain ⟨u_1, u_2, u_3, u_4, u_5, u_6, u_7, u_8, u_9, u_10⟩ := u
            have hP : va_P D vwCl (xW cI cZ x p p1 n n1 n2 n3 a a1 a2 a3 a4 a5 a6 k k1 k2 k3 k4 k5 k6 t t1 t2 t3 t4 t5 t6 le te no li dg nb wy pa ra fa ft dy er ti gr ah be pak rak fak ftk dyk erk tik grk ahk bek u_1 u_2 u_3 u_4 u_5 u_6 u_7 u_8 u_9 u_10 ik sp bo nr te9) H := hP.sub [0, 1, 2, 3, 4, 5, 6, 7, 8, 9, 10, 11, 12, 13, 14, 15, 16, 17, 18, 19, 20, 21, 22, 23, 24, 25, 26, 27] rfl
            have hD : va_D A (xW cI cZ x p p1 n n1 n2 n3 a a1 a2 a3 a4 a5 a6 k k1 k2 k3 k4 k5 k6 t t1 t2 t3 t4 t5 t6 le te no li dg nb wy pa ra fa ft dy er ti gr ah be pak rak fak ftk dyk erk tik grk ahk bek u_1 u_2 u_3 u_4 u_5 u_6 u_7 u_8 u_9 u_10 ik sp bo nr te9) := hD.sub [0, 1, 2, 3, 4, 5, 6, 7, 8, 9, 10, 11, 12, 13, 14, 15, 16, 17, 18, 19, 20, 21, 22, 23, 24, 25, 26, 27] (by decide) rfl
            refine W.eq (g2 := F0 mi 41 ls [.long ((pkL (xW9 dy er dg nb ra wy no sp bo pa fa (z.toNat)).1 ((xW9 dy er dg nb ra wy no sp bo pa fa (z.toNat)).2 : Int)))]) rfl ?_
            refine lv_lstore_n (lv' := [(3, .long ((pkL (xW9 dy er dg nb ra wy no sp bo pa fa (z.toNat)).1 ((xW9 dy er dg nb ra wy no sp bo pa fa (z.toNat)).2 : Int)))), (0, .ref x), (1, .int (iI z)), (2, .int (iI q))]) hx hb dX3_worst_41 rfl hl (by decide) rfl (fun ls hl => ?_)
            refine lv_iload_n hx hb dX3_worst_42 rfl (lv_at hl 3 rfl) ?_
            refine kx_if_ne (tgt := 53) hx hb (by omega) dX3_worst_43 (by decide) (fun h43 => ?_) (fun h43 => ?_)
            · skip
              refine lv_lload_n hx hb dX3_worst_53 rfl (lv_at hl 0 rfl) ?_
              refine kx_cS (As := [.long ((pkL (xW9 dy er dg nb ra wy no sp bo pa fa (z.toNat)).1 ((xW9 dy er dg nb ra wy no sp bo pa fa (z.toNat)).2 : Int)))]) (rest := []) (st1 := [.int (iI ((xW9 dy er dg nb ra wy no sp bo pa fa z.toNat).2 : Int))]) ⟨hx, hb, hml, hown, hts⟩ (c_X3_nodesOfWorst l D cI cZ ((xW9 dy er dg nb ra wy no sp bo pa fa z.toNat).1) ((xW9 dy er dg nb ra wy no sp bo pa fa z.toNat).2 : Int) (by first | assumption | omega) (by first | assumption | omega)) (va_cwS 1 hts gX3_worst_X3_nodesOfWorst rfl rfl rfl (by decide +kernel) ⟨Nat.le_of_ble_eq_true rfl, Nat.le_of_ble_eq_true rfl⟩) hK (hP.sub (ws' := []) [] rfl) rfl hl.1 rfl (Nat.le_of_ble_eq_true rfl) dX3_worst_54 ⟨Nat.zero_le _, Nat.zero_le _⟩ rfl ?_
              refine kx_top (b := (if ¬ ((1 ≤ z ∧ z ≤ 12) ∧ (0 ≤ q ∧ q ≤ 1)) then -100000003 else if ¬ 0 < no then -100000004 else if q = 0 then (xW9 dy er dg nb ra wy no sp bo pa fa z.toNat).1 else ((xW9 dy er dg nb ra wy no sp bo pa fa z.toNat).2 : Int))) (by (repeat' split) <;> first | rfl | omega | contradiction) ?_
              exact hret (u_1, u_2, u_3, u_4, u_5, u_6, u_7, u_8, u_9, u_10) H locs _ _ (trivial) hP hD hS dX3_worst_57
            · skip
              refine lv_lload_n hx hb dX3_worst_46 rfl (lv_at hl 0 rfl) ?_
              refine kx_cS (As := [.long ((pkL (xW9 dy er dg nb ra wy no sp bo pa fa (z.toNat)).1 ((xW9 dy er dg nb ra wy no sp bo pa fa (z.toNat)).2 : Int)))]) (rest := []) (st1 := [.int (iI ((xW9 dy er dg nb ra wy no sp bo pa fa z.toNat).1))]) ⟨hx, hb, hml, hown, hts⟩ (c_X3_skewOfWorst l D cI cZ ((xW9 dy er dg nb ra wy no sp bo pa fa z.toNat).1) ((xW9 dy er dg nb ra wy no sp bo pa fa z.toNat).2 : Int) (by first | assumption | omega) (by first | assumption | omega)) (va_cwS 1 hts gX3_worst_X3_skewOfWorst rfl rfl rfl (by decide +kernel) ⟨Nat.le_of_ble_eq_true rfl, Nat.le_of_ble_eq_true rfl⟩) hK (hP.sub (ws' := []) [] rfl) rfl hl.1 rfl (Nat.le_of_ble_eq_true rfl) dX3_worst_47 ⟨Nat.zero_le _, Nat.zero_le _⟩ rfl ?_
              refine lv_goto (tgt := 57) hx hb dX3_worst_50 (by decide) ?_
              refine kx_top (b := (if ¬ ((1 ≤ z ∧ z ≤ 12) ∧ (0 ≤ q ∧ q ≤ 1)) then -100000003 else if ¬ 0 < no then -100000004 else if q = 0 then (xW9 dy er dg nb ra wy no sp bo pa fa z.toNat).1 else ((xW9 dy er dg nb ra wy no sp bo pa fa z.toNat).2 : Int))) (by (repeat' split) <;> first | rfl | omega | contradiction) ?_
              exact hret (u_1, u_2, u_3, u_4, u_5, u_6, u_7, u_8, u_9, u_10) H locs _ _ (trivial) hP hD hS dX3_worst_57
          · skip
            refine kx_ldc (z := -100000004) hx hb hown (hts (.constant RX3 75 (-100000004)) (by decide +kernel)) dX3_worst_33 (by decide) ?_
            refine kx_top (b := (if ¬ ((1 ≤ z ∧ z ≤ 12) ∧ (0 ≤ q ∧ q ≤ 1)) then -100000003 else if ¬ 0 < no then -100000004 else if q = 0 then (xW9 dy er dg nb ra wy no sp bo pa fa z.toNat).1 else ((xW9 dy er dg nb ra wy no sp bo pa fa z.toNat).2 : Int))) (by (repeat' split) <;> first | rfl | omega | contradiction) ?_
            exact hret (pat, rat, fat, ftt, dyt, ert, tit, grt, aht, bet) H locs _ _ (trivial) hP hD hS dX3_worst_35
        · skip
          refine kx_ldc (z := -100000003) hx hb hown (hts (.constant RX3 55 (-100000003)) (by decide +kernel)) dX3_worst_20 (by decide) ?_
          refine kx_top (b := (if ¬ ((1 ≤ z ∧ z ≤ 12) ∧ (0 ≤ q ∧ q ≤ 1)) then -100000003 else if ¬ 0 < no then -100000004 else if q = 0 then (xW9 dy er dg nb ra wy no sp bo pa fa z.toNat).1 else ((xW9 dy er dg nb ra wy no sp bo pa fa z.toNat).2 : Int))) (by (repeat' split) <;> first | rfl | omega | contradiction) ?_
          exact hret (pat, rat, fat, ftt, dyt, ert, tit, grt, aht, bet) H locs _ _ (trivial) hP hD hS dX3_worst_22
def rm_X3_mix : Room := ({ frames := 0, cells := 0, slots := 0, locals := 0 } : Room)
set_option maxHeartbeats 4000000 in
set_option maxRecDepth 100000 in
theorem c_X3_mix (l : Launch) (D : va_G) (cI cZ : ClassId)  (lo9 : Int64) (z : Int)  : kRO l yX3_mix wsX3_mix rm_X3_mix D cI cZ [.long lo9, .int (iI z)] ([]) (some (.long (mx lo9 z))) := by
  refine kx_ROl (cc := cX3_mix) (maxL := 3) (by decide) rfl (Nat.le_of_ble_eq_true rfl) ?_
  intro pr en s mi args below meth co Q hx hb hml hown hts hK hP hret ls hl
  have hown : s.vm.findClass RX3 = some mi.cls := hown
  have hl : lv_has ls 3 [(0, .long lo9), (2, .int (iI z))] := hl
  refine lv_ldc2 (v := 31) hx hb hown (hts (.constantLong RX3 238 (31)) (by decide +kernel)) dX3_mix_0 ?_
  refine lv_lload_n hx hb dX3_mix_3 rfl (lv_at hl 0 rfl) ?_
  refine lv_lmul hx hb dX3_mix_4 ?_
  refine lv_iload_n hx hb dX3_mix_5 rfl (lv_at hl 1 rfl) ?_
  refine lv_i2l (v := (Int32.toInt64 (iI z))) hx hb dX3_mix_6 rfl ?_
  refine lv_ladd hx hb dX3_mix_7 ?_
  refine kx_topl (b := (mx lo9 z)) (by rfl) ?_
  exact hret _ _ dX3_mix_8
