def rm_X3_letter : Room := ({ frames := 1, cells := 0, slots := 0, locals := 21 } : Room)
set_option maxHeartbeats 4000000 in
set_option maxRecDepth 100000 in
theorem c_X3_letter (l : Launch) (D : va_G) (cI cZ : ClassId) (x p p1 n n1 n2 n3 a a1 a2 a3 a4 a5 a6 k k1 k2 k3 k4 k5 k6 t t1 t2 t3 t4 t5 t6 : Nat) (le : Int) (te : Nat → Int) (no li : Int) (dg nb wy pa ra fa ft dy er : Nat → Int) (ti gr ah be : Int) (pak rak fak ftk dyk erk : Nat → Int) (tik grk ahk bek : Int) (pat rat fat ftt dyt ert : Nat → Int) (tit grt aht bet ik sp bo nr te9 : Int) (z : Int) (hle : 0 ≤ le ∧ le ≤ 61) (hz : -2147483648 ≤ z ∧ z < 2147483648) : kWR l yX3_letter wsX3_letter rm_X3_letter D cI cZ [.ref x, .int (iI z)] (xW cI cZ x p p1 n n1 n2 n3 a a1 a2 a3 a4 a5 a6 k k1 k2 k3 k4 k5 k6 t t1 t2 t3 t4 t5 t6 le te no li dg nb wy pa ra fa ft dy er ti gr ah be pak rak fak ftk dyk erk tik grk ahk bek pat rat fat ftt dyt ert tit grt aht bet ik sp bo nr te9) (fun u : Int × (Nat → Int) => some (.int (iI (if ¬ (32 ≤ z ∧ z ≤ 126) then -100000003 else if 61 ≤ le then -100000005 else le + 1)))) (fun u : Int × (Nat → Int) => u.1 = (if ((32 ≤ z ∧ z ≤ 126) ∧ ¬ 61 ≤ le) then le + 1 else le) ∧ u.2 = (if ((32 ≤ z ∧ z ≤ 126) ∧ ¬ 61 ≤ le) then va_up te le.toNat z else te)) (fun u : Int × (Nat → Int) => xW cI cZ x p p1 n n1 n2 n3 a a1 a2 a3 a4 a5 a6 k k1 k2 k3 k4 k5 k6 t t1 t2 t3 t4 t5 t6 u.1 u.2 no li dg nb wy pa ra fa ft dy er ti gr ah be pak rak fak ftk dyk erk tik grk ahk bek pat rat fat ftt dyt ert tit grt aht bet ik sp bo nr te9) 0 0 := by
  refine kx_WRi (cc := cX3_letter) (maxL := 2) (by decide) rfl (Nat.le_of_ble_eq_true rfl) ?_
  intro pr en s mi args below meth co Q A hx hb hml hown hts hK hin hA hP hD hS hret ls hl
  have hown : s.vm.findClass RX3 = some mi.cls := hown
  have iX3 : ∀ w ∈ wsX30, w ∈ wsX3_letter := by decide +kernel
  have hl : lv_has ls 2 [(0, .ref x), (1, .int (iI z))] := hl
  generalize hH0 : s.heap = H0 at hA hP hS hret ⊢
  obtain ⟨H, hH⟩ : ∃ H : Heap, H = H0 := ⟨_, rfl⟩
  obtain ⟨locs, hlocs⟩ : ∃ locs : List Loc, locs = [] := ⟨_, rfl⟩
  have hS : va_S A H0 H locs := by rw [hH, hlocs]; exact hS
  have hP : va_P D vwCl (xW cI cZ x p p1 n n1 n2 n3 a a1 a2 a3 a4 a5 a6 k k1 k2 k3 k4 k5 k6 t t1 t2 t3 t4 t5 t6 le te no li dg nb wy pa ra fa ft dy er ti gr ah be pak rak fak ftk dyk erk tik grk ahk bek pat rat fat ftt dyt ert tit grt aht bet ik sp bo nr te9) H := by rw [hH]; exact hP
  suffices hgo : W pr l en rm_X3_letter s mi args below meth co H locs 0 0 Q (F0 mi 0 ls []) by rw [hH, hlocs] at hgo; exact hgo
  clear hH hlocs
  refine lv_iload_n hx hb dX3_letter_0 rfl (lv_at hl 1 rfl) ?_
  refine kx_bipush (z := 32) hx hb dX3_letter_1 (by decide) ?_
  refine kx_icmp_lt (tgt := 12) hx hb (by omega) (by omega) dX3_letter_3 (by decide) (fun h3 => ?_) (fun h3 => ?_)
  · skip
    refine kx_ldc (z := -100000003) hx hb hown (hts (.constant RX3 55 (-100000003)) (by decide +kernel)) dX3_letter_12 (by decide) ?_
    refine kx_top (b := (if ¬ (32 ≤ z ∧ z ≤ 126) then -100000003 else if 61 ≤ le then -100000005 else le + 1)) (by (repeat' split) <;> first | rfl | omega | contradiction | (exfalso; simp_all; done) | (exfalso; simp_all; omega)) ?_
    exact hret (le, te) H locs _ _ (⟨(by (try dsimp only); (repeat' split) <;> first | rfl | omega | contradiction | (exfalso; simp_all; done) | (exfalso; simp_all; omega)), (by (try dsimp only); (repeat' split) <;> first | rfl | omega | contradiction | (exfalso; simp_all; done) | (exfalso; simp_all; omega))⟩) hP hD hS dX3_letter_14
  · skip
    refine lv_iload_n hx hb dX3_letter_6 rfl (lv_at hl 1 rfl) ?_
    refine kx_bipush (z := 126) hx hb dX3_letter_7 (by decide) ?_
    refine kx_icmp_le (tgt := 15) hx hb (by omega) (by omega) dX3_letter_9 (by decide) (fun h9 => ?_) (fun h9 => ?_)
    · skip
      refine lv_aload_n hx hb dX3_letter_15 rfl (lv_at hl 0 rfl) ?_
      refine va_get (D := D) (ci := 3) (v := .ref p) (C := RX3) (T := TX3) (N := 10) hx hb hts iX3 hown hK.1 hP 0 rfl rfl 0 (by decide) (hts (.fieldLink RX3 10 "CloseClocks" "page" "LCloseClocks$Page;") (by decide +kernel)) (fun _ h9 => h9) rfl dX3_letter_16 ?_
      refine kx_cV (As := []) (rest := []) (st1 := [.int (iI (if (61 ≤ le) then 1 else 0))]) (q0 := 0) (ci := 2) ⟨hx, hb, hml, hown, hts⟩ (c_X2_isFull l D cI cZ p p1 le te (by first | assumption | omega)) (cwV 0 hts gX3_letter_X2_isFull rfl rfl rfl (by decide +kernel) ⟨Nat.le_of_ble_eq_true rfl, Nat.le_of_ble_eq_true rfl⟩) hK (hP.sub (ws' := pgW cI cZ p p1 le te) [1, 2] rfl) rfl rfl rfl hl.1 rfl (Nat.le_of_ble_eq_true rfl) dX3_letter_19 ⟨Nat.zero_le _, Nat.zero_le _⟩ rfl ?_
      refine kx_if_eqB (tgt := 28) hx hb dX3_letter_22 (by decide) (fun h22 => ?_) (fun h22 => ?_)
      · skip
        refine lv_aload_n hx hb dX3_letter_28 rfl (lv_at hl 0 rfl) ?_
        refine va_get (D := D) (ci := 3) (v := .ref p) (C := RX3) (T := TX3) (N := 10) hx hb hts iX3 hown hK.1 hP 0 rfl rfl 0 (by decide) (hts (.fieldLink RX3 10 "CloseClocks" "page" "LCloseClocks$Page;") (by decide +kernel)) (fun _ h9 => h9) rfl dX3_letter_29 ?_
        refine lv_iload_n hx hb dX3_letter_32 rfl (lv_at hl 1 rfl) ?_
        refine kx_cVW (As := [.int (iI z)]) (rest := []) (wr := [(x, .inr (3, [.ref p, .ref n, .ref a, .ref k, .ref t, .int (iI ik), .int (iI sp), .int (iI bo), .int (iI nr), .int (iI te9)])), (n, .inr (1, [.ref n1, .ref n2, .ref n3, .int (iI no), .int (iI li)])), (n1, aI cI 6 dg), (n2, aI cI 36 nb), (n3, aI cI 36 wy), (a, .inr (0, [.ref n, .ref a1, .ref a2, .ref a3, .ref a4, .ref a5, .ref a6, .int (iI ti), .int (iI gr), .int (iI ah), .int (iI be)])), (a1, aI cI 24 pa), (a2, aI cI 6 ra), (a3, aI cI 6 fa), (a4, aI cI 6 ft), (a5, aI cI 36 dy), (a6, aI cI 36 er), (k, .inr (0, [.ref n, .ref k1, .ref k2, .ref k3, .ref k4, .ref k5, .ref k6, .int (iI tik), .int (iI grk), .int (iI ahk), .int (iI bek)])), (k1, aI cI 24 pak), (k2, aI cI 6 rak), (k3, aI cI 6 fak), (k4, aI cI 6 ftk), (k5, aI cI 36 dyk), (k6, aI cI 36 erk), (t, .inr (0, [.ref n, .ref t1, .ref t2, .ref t3, .ref t4, .ref t5, .ref t6, .int (iI tit), .int (iI grt), .int (iI aht), .int (iI bet)])), (t1, aI cI 24 pat), (t2, aI cI 6 rat), (t3, aI cI 6 fat), (t4, aI cI 6 ftt), (t5, aI cI 36 dyt), (t6, aI cI 36 ert)]) (q0 := 0) (ci := 2) ⟨hx, hb, hml, hown, hts⟩ (c_X2_append l D cI cZ p p1 le te z (by first | assumption | omega)) (cwV 1 hts gX3_letter_X2_append rfl rfl rfl (by decide +kernel) ⟨Nat.le_of_ble_eq_true rfl, Nat.le_of_ble_eq_true rfl⟩) hK hP hD hS hA [1, 2] [0, 3, 4, 5, 6, 7, 8, 9, 10, 11, 12, 13, 14, 15, 16, 17, 18, 19, 20, 21, 22, 23, 24, 25, 26, 27] rfl rfl (by decide) (by decide) (by decide) rfl rfl rfl hl.1 rfl (Nat.le_of_ble_eq_true rfl) dX3_letter_33 ⟨Nat.le_of_ble_eq_true rfl, Nat.le_of_ble_eq_true rfl⟩ (fun u H locs hq hP hD hS => ?_)
        have hP : va_P D vwCl (xW cI cZ x p p1 n n1 n2 n3 a a1 a2 a3 a4 a5 a6 k k1 k2 k3 k4 k5 k6 t t1 t2 t3 t4 t5 t6 (le + 1) (va_up te le.toNat z) no li dg nb wy pa ra fa ft dy er ti gr ah be pak rak fak ftk dyk erk tik grk ahk bek pat rat fat ftt dyt ert tit grt aht bet ik sp bo nr te9) H := hP.sub [0, 26, 27, 1, 2, 3, 4, 5, 6, 7, 8, 9, 10, 11, 12, 13, 14, 15, 16, 17, 18, 19, 20, 21, 22, 23, 24, 25] rfl
        have hD : va_D A (xW cI cZ x p p1 n n1 n2 n3 a a1 a2 a3 a4 a5 a6 k k1 k2 k3 k4 k5 k6 t t1 t2 t3 t4 t5 t6 (le + 1) (va_up te le.toNat z) no li dg nb wy pa ra fa ft dy er ti gr ah be pak rak fak ftk dyk erk tik grk ahk bek pat rat fat ftt dyt ert tit grt aht bet ik sp bo nr te9) := hD.sub [0, 26, 27, 1, 2, 3, 4, 5, 6, 7, 8, 9, 10, 11, 12, 13, 14, 15, 16, 17, 18, 19, 20, 21, 22, 23, 24, 25] (by decide) rfl
        refine W.eq (g2 := F0 mi 36 ls [.int (iI (le + 1))]) rfl ?_
        refine kx_top (b := (if ¬ (32 ≤ z ∧ z ≤ 126) then -100000003 else if 61 ≤ le then -100000005 else le + 1)) (by (repeat' split) <;> first | rfl | omega | contradiction | (exfalso; simp_all; done) | (exfalso; simp_all; omega)) ?_
        exact hret ((le + 1), (va_up te le.toNat z)) H locs _ _ (⟨(by (try dsimp only); (repeat' split) <;> first | rfl | omega | contradiction | (exfalso; simp_all; done) | (exfalso; simp_all; omega)), (by (try dsimp only); (repeat' split) <;> first | rfl | omega | contradiction | (exfalso; simp_all; done) | (exfalso; simp_all; omega))⟩) hP hD hS dX3_letter_36
      · skip
        refine kx_ldc (z := -100000005) hx hb hown (hts (.constant RX3 60 (-100000005)) (by decide +kernel)) dX3_letter_25 (by decide) ?_
        refine kx_top (b := (if ¬ (32 ≤ z ∧ z ≤ 126) then -100000003 else if 61 ≤ le then -100000005 else le + 1)) (by (repeat' split) <;> first | rfl | omega | contradiction | (exfalso; simp_all; done) | (exfalso; simp_all; omega)) ?_
        exact hret (le, te) H locs _ _ (⟨(by (try dsimp only); (repeat' split) <;> first | rfl | omega | contradiction | (exfalso; simp_all; done) | (exfalso; simp_all; omega)), (by (try dsimp only); (repeat' split) <;> first | rfl | omega | contradiction | (exfalso; simp_all; done) | (exfalso; simp_all; omega))⟩) hP hD hS dX3_letter_27
    · skip
      refine kx_ldc (z := -100000003) hx hb hown (hts (.constant RX3 55 (-100000003)) (by decide +kernel)) dX3_letter_12 (by decide) ?_
      refine kx_top (b := (if ¬ (32 ≤ z ∧ z ≤ 126) then -100000003 else if 61 ≤ le then -100000005 else le + 1)) (by (repeat' split) <;> first | rfl | omega | contradiction | (exfalso; simp_all; done) | (exfalso; simp_all; omega)) ?_
      exact hret (le, te) H locs _ _ (⟨(by (try dsimp only); (repeat' split) <;> first | rfl | omega | contradiction | (exfalso; simp_all; done) | (exfalso; simp_all; omega)), (by (try dsimp only); (repeat' split) <;> first | rfl | omega | contradiction | (exfalso; simp_all; done) | (exfalso; simp_all; omega))⟩) hP hD hS dX3_letter_14
def rm_X3_blank : Room := ({ frames := 1, cells := 0, slots := 0, locals := 21 } : Room)
set_option maxHeartbeats 4000000 in
set_option maxRecDepth 100000 in
theorem c_X3_blank (l : Launch) (D : va_G) (cI cZ : ClassId) (x p p1 n n1 n2 n3 a a1 a2 a3 a4 a5 a6 k k1 k2 k3 k4 k5 k6 t t1 t2 t3 t4 t5 t6 : Nat) (le : Int) (te : Nat → Int) (no li : Int) (dg nb wy pa ra fa ft dy er : Nat → Int) (ti gr ah be : Int) (pak rak fak ftk dyk erk : Nat → Int) (tik grk ahk bek : Int) (pat rat fat ftt dyt ert : Nat → Int) (tit grt aht bet ik sp bo nr te9 : Int)   : kWR l yX3_blank wsX3_blank rm_X3_blank D cI cZ [.ref x] (xW cI cZ x p p1 n n1 n2 n3 a a1 a2 a3 a4 a5 a6 k k1 k2 k3 k4 k5 k6 t t1 t2 t3 t4 t5 t6 le te no li dg nb wy pa ra fa ft dy er ti gr ah be pak rak fak ftk dyk erk tik grk ahk bek pat rat fat ftt dyt ert tit grt aht bet ik sp bo nr te9) (fun u : Unit => some (.int (iI le))) (fun u : Unit => True) (fun u : Unit => xW cI cZ x p p1 n n1 n2 n3 a a1 a2 a3 a4 a5 a6 k k1 k2 k3 k4 k5 k6 t t1 t2 t3 t4 t5 t6 0 te no li dg nb wy pa ra fa ft dy er ti gr ah be pak rak fak ftk dyk erk tik grk ahk bek pat rat fat ftt dyt ert tit grt aht bet ik sp bo nr te9) 0 0 := by
  refine kx_WRi (cc := cX3_blank) (maxL := 1) (by decide) rfl (Nat.le_of_ble_eq_true rfl) ?_
  intro pr en s mi args below meth co Q A hx hb hml hown hts hK hin hA hP hD hS hret ls hl
  have hown : s.vm.findClass RX3 = some mi.cls := hown
  have iX3 : ∀ w ∈ wsX30, w ∈ wsX3_blank := by decide +kernel
  have hl : lv_has ls 1 [(0, .ref x)] := hl
  generalize hH0 : s.heap = H0 at hA hP hS hret ⊢
  obtain ⟨H, hH⟩ : ∃ H : Heap, H = H0 := ⟨_, rfl⟩
  obtain ⟨locs, hlocs⟩ : ∃ locs : List Loc, locs = [] := ⟨_, rfl⟩
  have hS : va_S A H0 H locs := by rw [hH, hlocs]; exact hS
  have hP : va_P D vwCl (xW cI cZ x p p1 n n1 n2 n3 a a1 a2 a3 a4 a5 a6 k k1 k2 k3 k4 k5 k6 t t1 t2 t3 t4 t5 t6 le te no li dg nb wy pa ra fa ft dy er ti gr ah be pak rak fak ftk dyk erk tik grk ahk bek pat rat fat ftt dyt ert tit grt aht bet ik sp bo nr te9) H := by rw [hH]; exact hP
  suffices hgo : W pr l en rm_X3_blank s mi args below meth co H locs 0 0 Q (F0 mi 0 ls []) by rw [hH, hlocs] at hgo; exact hgo
  clear hH hlocs
  refine lv_aload_n hx hb dX3_blank_0 rfl (lv_at hl 0 rfl) ?_
  refine va_get (D := D) (ci := 3) (v := .ref p) (C := RX3) (T := TX3) (N := 10) hx hb hts iX3 hown hK.1 hP 0 rfl rfl 0 (by decide) (hts (.fieldLink RX3 10 "CloseClocks" "page" "LCloseClocks$Page;") (by decide +kernel)) (fun _ h9 => h9) rfl dX3_blank_1 ?_
  refine kx_cVW (As := []) (rest := []) (wr := [(x, .inr (3, [.ref p, .ref n, .ref a, .ref k, .ref t, .int (iI ik), .int (iI sp), .int (iI bo), .int (iI nr), .int (iI te9)])), (n, .inr (1, [.ref n1, .ref n2, .ref n3, .int (iI no), .int (iI li)])), (n1, aI cI 6 dg), (n2, aI cI 36 nb), (n3, aI cI 36 wy), (a, .inr (0, [.ref n, .ref a1, .ref a2, .ref a3, .ref a4, .ref a5, .ref a6, .int (iI ti), .int (iI gr), .int (iI ah), .int (iI be)])), (a1, aI cI 24 pa), (a2, aI cI 6 ra), (a3, aI cI 6 fa), (a4, aI cI 6 ft), (a5, aI cI 36 dy), (a6, aI cI 36 er), (k, .inr (0, [.ref n, .ref k1, .ref k2, .ref k3, .ref k4, .ref k5, .ref k6, .int (iI tik), .int (iI grk), .int (iI ahk), .int (iI bek)])), (k1, aI cI 24 pak), (k2, aI cI 6 rak), (k3, aI cI 6 fak), (k4, aI cI 6 ftk), (k5, aI cI 36 dyk), (k6, aI cI 36 erk), (t, .inr (0, [.ref n, .ref t1, .ref t2, .ref t3, .ref t4, .ref t5, .ref t6, .int (iI tit), .int (iI grt), .int (iI aht), .int (iI bet)])), (t1, aI cI 24 pat), (t2, aI cI 6 rat), (t3, aI cI 6 fat), (t4, aI cI 6 ftt), (t5, aI cI 36 dyt), (t6, aI cI 36 ert)]) (q0 := 0) (ci := 2) ⟨hx, hb, hml, hown, hts⟩ (c_X2_empty l D cI cZ p p1 le te ) (cwV 0 hts gX3_blank_X2_empty rfl rfl rfl (by decide +kernel) ⟨Nat.le_of_ble_eq_true rfl, Nat.le_of_ble_eq_true rfl⟩) hK hP hD hS hA [1, 2] [0, 3, 4, 5, 6, 7, 8, 9, 10, 11, 12, 13, 14, 15, 16, 17, 18, 19, 20, 21, 22, 23, 24, 25, 26, 27] rfl rfl (by decide) (by decide) (by decide) rfl rfl rfl hl.1 rfl (Nat.le_of_ble_eq_true rfl) dX3_blank_4 ⟨Nat.le_of_ble_eq_true rfl, Nat.le_of_ble_eq_true rfl⟩ (fun u H locs hq hP hD hS => ?_)
  have hP : va_P D vwCl (xW cI cZ x p p1 n n1 n2 n3 a a1 a2 a3 a4 a5 a6 k k1 k2 k3 k4 k5 k6 t t1 t2 t3 t4 t5 t6 0 te no li dg nb wy pa ra fa ft dy er ti gr ah be pak rak fak ftk dyk erk tik grk ahk bek pat rat fat ftt dyt ert tit grt aht bet ik sp bo nr te9) H := hP.sub [0, 26, 27, 1, 2, 3, 4, 5, 6, 7, 8, 9, 10, 11, 12, 13, 14, 15, 16, 17, 18, 19, 20, 21, 22, 23, 24, 25] rfl
  have hD : va_D A (xW cI cZ x p p1 n n1 n2 n3 a a1 a2 a3 a4 a5 a6 k k1 k2 k3 k4 k5 k6 t t1 t2 t3 t4 t5 t6 0 te no li dg nb wy pa ra fa ft dy er ti gr ah be pak rak fak ftk dyk erk tik grk ahk bek pat rat fat ftt dyt ert tit grt aht bet ik sp bo nr te9) := hD.sub [0, 26, 27, 1, 2, 3, 4, 5, 6, 7, 8, 9, 10, 11, 12, 13, 14, 15, 16, 17, 18, 19, 20, 21, 22, 23, 24, 25] (by decide) rfl
  refine W.eq (g2 := F0 mi 7 ls [.int (iI le)]) rfl ?_
  exact hret () H locs _ _ (trivial) hP hD hS dX3_blank_7
def rm_X3_fault : Room := ({ frames := 5, cells := 0, slots := 0, locals := 111 } : Room)
set_option maxHeartbeats 4000000 in
set_option maxRecDepth 100000 in
theorem c_X3_fault (l : Launch) (D : va_G) (cI cZ : ClassId) (x p p1 n n1 n2 n3 a a1 a2 a3 a4 a5 a6 k k1 k2 k3 k4 k5 k6 t t1 t2 t3 t4 t5 t6 : Nat) (le : Int) (te : Nat → Int) (no li : Int) (dg nb wy pa ra fa ft dy er : Nat → Int) (ti gr ah be : Int) (pak rak fak ftk dyk erk : Nat → Int) (tik grk ahk bek : Int) (pat rat fat ftt dyt ert : Nat → Int) (tit grt aht bet ik sp bo nr te9 : Int)  (hle : 0 ≤ le ∧ le ≤ 61) (hte : ∀ k : Nat, k < 61 → 0 ≤ te k ∧ te k ≤ 126) : kRO l yX3_fault wsX3_fault rm_X3_fault D cI cZ [.ref x] (xW cI cZ x p p1 n n1 n2 n3 a a1 a2 a3 a4 a5 a6 k k1 k2 k3 k4 k5 k6 t t1 t2 t3 t4 t5 t6 le te no li dg nb wy pa ra fa ft dy er ti gr ah be pak rak fak ftk dyk erk tik grk ahk bek pat rat fat ftt dyt ert tit grt aht bet ik sp bo nr te9) (some (.int (iI (fau te le.toNat : Int)))) := by
  refine kx_ROi (cc := cX3_fault) (maxL := 1) (by decide) rfl (Nat.le_of_ble_eq_true rfl) ?_
  intro pr en s mi args below meth co Q hx hb hml hown hts hK hP hret ls hl
  have hown : s.vm.findClass RX3 = some mi.cls := hown
  have iX3 : ∀ w ∈ wsX30, w ∈ wsX3_fault := by decide +kernel
  have hl : lv_has ls 1 [(0, .ref x)] := hl
  refine lv_aload_n hx hb dX3_fault_0 rfl (lv_at hl 0 rfl) ?_
  refine va_get (D := D) (ci := 3) (v := .ref p) (C := RX3) (T := TX3) (N := 10) hx hb hts iX3 hown hK.1 hP 0 rfl rfl 0 (by decide) (hts (.fieldLink RX3 10 "CloseClocks" "page" "LCloseClocks$Page;") (by decide +kernel)) (fun _ h9 => h9) rfl dX3_fault_1 ?_
  refine kx_cV (As := []) (rest := []) (st1 := [.int (iI (fau te le.toNat : Int))]) (q0 := 0) (ci := 2) ⟨hx, hb, hml, hown, hts⟩ (c_X2_firstFault l D cI cZ p p1 le te (by first | assumption | omega) (by first | assumption | omega)) (cwV 0 hts gX3_fault_X2_firstFault rfl rfl rfl (by decide +kernel) ⟨Nat.le_of_ble_eq_true rfl, Nat.le_of_ble_eq_true rfl⟩) hK (hP.sub (ws' := pgW cI cZ p p1 le te) [1, 2] rfl) rfl rfl rfl hl.1 rfl (Nat.le_of_ble_eq_true rfl) dX3_fault_4 ⟨Nat.zero_le _, Nat.zero_le _⟩ rfl ?_
  exact hret _ _ dX3_fault_7
def rm_X3_set : Room := ({ frames := 0, cells := 0, slots := 0, locals := 0 } : Room)
set_option maxHeartbeats 4000000 in
set_option maxRecDepth 100000 in
theorem c_X3_set (l : Launch) (D : va_G) (cI cZ : ClassId) (x p p1 n n1 n2 n3 a a1 a2 a3 a4 a5 a6 k k1 k2 k3 k4 k5 k6 t t1 t2 t3 t4 t5 t6 : Nat) (le : Int) (te : Nat → Int) (no li : Int) (dg nb wy pa ra fa ft dy er : Nat → Int) (ti gr ah be : Int) (pak rak fak ftk dyk erk : Nat → Int) (tik grk ahk bek : Int) (pat rat fat ftt dyt ert : Nat → Int) (tit grt aht bet ik sp bo nr te9 : Int) (q z : Int) (hq : -2147483648 ≤ q ∧ q < 2147483648) (hz : -2147483648 ≤ z ∧ z < 2147483648) : kWR l yX3_set wsX3_set rm_X3_set D cI cZ [.ref x, .int (iI q), .int (iI z)] (xW cI cZ x p p1 n n1 n2 n3 a a1 a2 a3 a4 a5 a6 k k1 k2 k3 k4 k5 k6 t t1 t2 t3 t4 t5 t6 le te no li dg nb wy pa ra fa ft dy er ti gr ah be pak rak fak ftk dyk erk tik grk ahk bek pat rat fat ftt dyt ert tit grt aht bet ik sp bo nr te9) (fun u : Int × Int => some (.int (iI (if ¬ ((0 ≤ q ∧ q ≤ 1) ∧ (1 ≤ z ∧ z ≤ (if q = 0 then 500 else 60))) then -100000003 else if q = 0 then sp else bo)))) (fun u : Int × Int => u.1 = (if ((0 ≤ q ∧ q ≤ 1) ∧ (1 ≤ z ∧ z ≤ (if q = 0 then 500 else 60))) ∧ q = 0 then z else sp) ∧ u.2 = (if ((0 ≤ q ∧ q ≤ 1) ∧ (1 ≤ z ∧ z ≤ (if q = 0 then 500 else 60))) ∧ q ≠ 0 then z else bo)) (fun u : Int × Int => xW cI cZ x p p1 n n1 n2 n3 a a1 a2 a3 a4 a5 a6 k k1 k2 k3 k4 k5 k6 t t1 t2 t3 t4 t5 t6 le te no li dg nb wy pa ra fa ft dy er ti gr ah be pak rak fak ftk dyk erk tik grk ahk bek pat rat fat ftt dyt ert tit grt aht bet ik u.1 u.2 nr te9) 0 0 := by
  refine kx_WRi (cc := cX3_set) (maxL := 4) (by decide) rfl (Nat.le_of_ble_eq_true rfl) ?_
  intro pr en s mi args below meth co Q A hx hb hml hown hts hK hin hA hP hD hS hret ls hl
  have hown : s.vm.findClass RX3 = some mi.cls := hown
  have iX3 : ∀ w ∈ wsX30, w ∈ wsX3_set := by decide +kernel
  have hl : lv_has ls 4 [(0, .ref x), (1, .int (iI q)), (2, .int (iI z))] := hl
  generalize hH0 : s.heap = H0 at hA hP hS hret ⊢
  obtain ⟨H, hH⟩ : ∃ H : Heap, H = H0 := ⟨_, rfl⟩
  obtain ⟨locs, hlocs⟩ : ∃ locs : List Loc, locs = [] := ⟨_, rfl⟩
  have hS : va_S A H0 H locs := by rw [hH, hlocs]; exact hS
  have hP : va_P D vwCl (xW cI cZ x p p1 n n1 n2 n3 a a1 a2 a3 a4 a5 a6 k k1 k2 k3 k4 k5 k6 t t1 t2 t3 t4 t5 t6 le te no li dg nb wy pa ra fa ft dy er ti gr ah be pak rak fak ftk dyk erk tik grk ahk bek pat rat fat ftt dyt ert tit grt aht bet ik sp bo nr te9) H := by rw [hH]; exact hP
  suffices hgo : W pr l en rm_X3_set s mi args below meth co H locs 0 0 Q (F0 mi 0 ls []) by rw [hH, hlocs] at hgo; exact hgo
  clear hH hlocs
  refine lv_iload_n hx hb dX3_set_0 rfl (lv_at hl 1 rfl) ?_
  refine kx_if_lt (tgt := 30) hx hb (by omega) dX3_set_1 (by decide) (fun h1 => ?_) (fun h1 => ?_)
  · skip
    refine kx_ldc (z := -100000003) hx hb hown (hts (.constant RX3 55 (-100000003)) (by decide +kernel)) dX3_set_30 (by decide) ?_
    refine kx_top (b := (if ¬ ((0 ≤ q ∧ q ≤ 1) ∧ (1 ≤ z ∧ z ≤ (if q = 0 then 500 else 60))) then -100000003 else if q = 0 then sp else bo)) (by (repeat' split) <;> first | rfl | omega | contradiction | (exfalso; simp_all; done) | (exfalso; simp_all; omega)) ?_
    exact hret (sp, bo) H locs _ _ (⟨(by (try dsimp only); (repeat' split) <;> first | rfl | omega | contradiction | (exfalso; simp_all; done) | (exfalso; simp_all; omega)), (by (try dsimp only); (repeat' split) <;> first | rfl | omega | contradiction | (exfalso; simp_all; done) | (exfalso; simp_all; omega))⟩) hP hD hS dX3_set_32
  · skip
    refine lv_iload_n hx hb dX3_set_4 rfl (lv_at hl 1 rfl) ?_
    refine kx_const (z := 1) hx hb dX3_set_5 rfl ?_
    refine kx_icmp_gt (tgt := 30) hx hb (by omega) (by omega) dX3_set_6 (by decide) (fun h6 => ?_) (fun h6 => ?_)
    · skip
      refine kx_ldc (z := -100000003) hx hb hown (hts (.constant RX3 55 (-100000003)) (by decide +kernel)) dX3_set_30 (by decide) ?_
      refine kx_top (b := (if ¬ ((0 ≤ q ∧ q ≤ 1) ∧ (1 ≤ z ∧ z ≤ (if q = 0 then 500 else 60))) then -100000003 else if q = 0 then sp else bo)) (by (repeat' split) <;> first | rfl | omega | contradiction | (exfalso; simp_all; done) | (exfalso; simp_all; omega)) ?_
      exact hret (sp, bo) H locs _ _ (⟨(by (try dsimp only); (repeat' split) <;> first | rfl | omega | contradiction | (exfalso; simp_all; done) | (exfalso; simp_all; omega)), (by (try dsimp only); (repeat' split) <;> first | rfl | omega | contradiction | (exfalso; simp_all; done) | (exfalso; simp_all; omega))⟩) hP hD hS dX3_set_32
    · skip
      refine lv_iload_n hx hb dX3_set_9 rfl (lv_at hl 2 rfl) ?_
      refine kx_const (z := 1) hx hb dX3_set_10 rfl ?_
      refine kx_icmp_lt (tgt := 30) hx hb (by omega) (by omega) dX3_set_11 (by decide) (fun h11 => ?_) (fun h11 => ?_)
      · skip
        refine kx_ldc (z := -100000003) hx hb hown (hts (.constant RX3 55 (-100000003)) (by decide +kernel)) dX3_set_30 (by decide) ?_
        refine kx_top (b := (if ¬ ((0 ≤ q ∧ q ≤ 1) ∧ (1 ≤ z ∧ z ≤ (if q = 0 then 500 else 60))) then -100000003 else if q = 0 then sp else bo)) (by (repeat' split) <;> first | rfl | omega | contradiction | (exfalso; simp_all; done) | (exfalso; simp_all; omega)) ?_
        exact hret (sp, bo) H locs _ _ (⟨(by (try dsimp only); (repeat' split) <;> first | rfl | omega | contradiction | (exfalso; simp_all; done) | (exfalso; simp_all; omega)), (by (try dsimp only); (repeat' split) <;> first | rfl | omega | contradiction | (exfalso; simp_all; done) | (exfalso; simp_all; omega))⟩) hP hD hS dX3_set_32
      · skip
        refine lv_iload_n hx hb dX3_set_14 rfl (lv_at hl 2 rfl) ?_
        refine lv_iload_n hx hb dX3_set_15 rfl (lv_at hl 1 rfl) ?_
        refine kx_if_ne (tgt := 25) hx hb (by omega) dX3_set_16 (by decide) (fun h16 => ?_) (fun h16 => ?_)
        · skip
          refine kx_bipush (z := 60) hx hb dX3_set_25 (by decide) ?_
          refine kx_icmp_le (tgt := 33) hx hb (by omega) (by omega) dX3_set_27 (by decide) (fun h27 => ?_) (fun h27 => ?_)
          · skip
            refine lv_iload_n hx hb dX3_set_33 rfl (lv_at hl 1 rfl) ?_
            refine kx_if_ne (tgt := 50) hx hb (by omega) dX3_set_34 (by decide) (fun h34 => ?_) (fun h34 => ?_)
            · skip
              refine lv_aload_n hx hb dX3_set_50 rfl (lv_at hl 0 rfl) ?_
              refine va_get (D := D) (ci := 3) (v := .int (iI bo)) (C := RX3) (T := TX3) (N := 10) hx hb hts iX3 hown hK.1 hP 0 rfl rfl 7 (by decide) (hts (.fieldLink RX3 46 "CloseClocks" "boost" "I") (by decide +kernel)) (fun _ h9 => h9) rfl dX3_set_51 ?_
              refine lv_istore_n (lv' := [(3, .int (iI bo)), (0, .ref x), (1, .int (iI q)), (2, .int (iI z))]) hx hb dX3_set_54 rfl hl (by decide) rfl (fun ls hl => ?_)
              refine lv_aload_n hx hb dX3_set_55 rfl (lv_at hl 1 rfl) ?_
              refine lv_iload_n hx hb dX3_set_56 rfl (lv_at hl 3 rfl) ?_
              refine va_put (D := D) (ci := 3) (v := .int (iI z)) (ty := .int) (C := RX3) (T := TX3) (N := 10) hx hb hts iX3 tyX3 tyX3_ok nmX3 hown hK.1 hP hD hS 0 rfl rfl 7 (by decide) (hts (.fieldLink RX3 46 "CloseClocks" "boost" "I") (by decide +kernel)) (fun _ h9 => h9) rfl (by decide +kernel) rfl rfl (Nat.le_of_ble_eq_true rfl) dX3_set_57 (fun H locs hP hD hS => ?_)
              have hP : va_P D vwCl (xW cI cZ x p p1 n n1 n2 n3 a a1 a2 a3 a4 a5 a6 k k1 k2 k3 k4 k5 k6 t t1 t2 t3 t4 t5 t6 le te no li dg nb wy pa ra fa ft dy er ti gr ah be pak rak fak ftk dyk erk tik grk ahk bek pat rat fat ftt dyt ert tit grt aht bet ik sp z nr te9) H := hP
              have hD : va_D A (xW cI cZ x p p1 n n1 n2 n3 a a1 a2 a3 a4 a5 a6 k k1 k2 k3 k4 k5 k6 t t1 t2 t3 t4 t5 t6 le te no li dg nb wy pa ra fa ft dy er ti gr ah be pak rak fak ftk dyk erk tik grk ahk bek pat rat fat ftt dyt ert tit grt aht bet ik sp z nr te9) := hD
              refine lv_iload_n hx hb dX3_set_60 rfl (lv_at hl 0 rfl) ?_
              refine kx_top (b := (if ¬ ((0 ≤ q ∧ q ≤ 1) ∧ (1 ≤ z ∧ z ≤ (if q = 0 then 500 else 60))) then -100000003 else if q = 0 then sp else bo)) (by (repeat' split) <;> first | rfl | omega | contradiction | (exfalso; simp_all; done) | (exfalso; simp_all; omega)) ?_
              exact hret (sp, z) H locs _ _ (⟨(by (try dsimp only); (repeat' split) <;> first | rfl | omega | contradiction | (exfalso; simp_all; done) | (exfalso; simp_all; omega)), (by (try dsimp only); (repeat' split) <;> first | rfl | omega | contradiction | (exfalso; simp_all; done) | (exfalso; simp_all; omega))⟩) hP hD hS dX3_set_61
            · skip
              refine lv_aload_n hx hb dX3_set_37 rfl (lv_at hl 0 rfl) ?_
              refine va_get (D := D) (ci := 3) (v := .int (iI sp)) (C := RX3) (T := TX3) (N := 10) hx hb hts iX3 hown hK.1 hP 0 rfl rfl 6 (by decide) (hts (.fieldLink RX3 42 "CloseClocks" "step" "I") (by decide +kernel)) (fun _ h9 => h9) rfl dX3_set_38 ?_
              refine lv_istore_n (lv' := [(3, .int (iI sp)), (0, .ref x), (1, .int (iI q)), (2, .int (iI z))]) hx hb dX3_set_41 rfl hl (by decide) rfl (fun ls hl => ?_)
              refine lv_aload_n hx hb dX3_set_42 rfl (lv_at hl 1 rfl) ?_
              refine lv_iload_n hx hb dX3_set_43 rfl (lv_at hl 3 rfl) ?_
              refine va_put (D := D) (ci := 3) (v := .int (iI z)) (ty := .int) (C := RX3) (T := TX3) (N := 10) hx hb hts iX3 tyX3 tyX3_ok nmX3 hown hK.1 hP hD hS 0 rfl rfl 6 (by decide) (hts (.fieldLink RX3 42 "CloseClocks" "step" "I") (by decide +kernel)) (fun _ h9 => h9) rfl (by decide +kernel) rfl rfl (Nat.le_of_ble_eq_true rfl) dX3_set_44 (fun H locs hP hD hS => ?_)
              have hP : va_P D vwCl (xW cI cZ x p p1 n n1 n2 n3 a a1 a2 a3 a4 a5 a6 k k1 k2 k3 k4 k5 k6 t t1 t2 t3 t4 t5 t6 le te no li dg nb wy pa ra fa ft dy er ti gr ah be pak rak fak ftk dyk erk tik grk ahk bek pat rat fat ftt dyt ert tit grt aht bet ik z bo nr te9) H := hP
              have hD : va_D A (xW cI cZ x p p1 n n1 n2 n3 a a1 a2 a3 a4 a5 a6 k k1 k2 k3 k4 k5 k6 t t1 t2 t3 t4 t5 t6 le te no li dg nb wy pa ra fa ft dy er ti gr ah be pak rak fak ftk dyk erk tik grk ahk bek pat rat fat ftt dyt ert tit grt aht bet ik z bo nr te9) := hD
              refine lv_goto (tgt := 60) hx hb dX3_set_47 (by decide) ?_
              refine lv_iload_n hx hb dX3_set_60 rfl (lv_at hl 0 rfl) ?_
              refine kx_top (b := (if ¬ ((0 ≤ q ∧ q ≤ 1) ∧ (1 ≤ z ∧ z ≤ (if q = 0 then 500 else 60))) then -100000003 else if q = 0 then sp else bo)) (by (repeat' split) <;> first | rfl | omega | contradiction | (exfalso; simp_all; done) | (exfalso; simp_all; omega)) ?_
              exact hret (z, bo) H locs _ _ (⟨(by (try dsimp only); (repeat' split) <;> first | rfl | omega | contradiction | (exfalso; simp_all; done) | (exfalso; simp_all; omega)), (by (try dsimp only); (repeat' split) <;> first | rfl | omega | contradiction | (exfalso; simp_all; done) | (exfalso; simp_all; omega))⟩) hP hD hS dX3_set_61
          · skip
            refine kx_ldc (z := -100000003) hx hb hown (hts (.constant RX3 55 (-100000003)) (by decide +kernel)) dX3_set_30 (by decide) ?_
            refine kx_top (b := (if ¬ ((0 ≤ q ∧ q ≤ 1) ∧ (1 ≤ z ∧ z ≤ (if q = 0 then 500 else 60))) then -100000003 else if q = 0 then sp else bo)) (by (repeat' split) <;> first | rfl | omega | contradiction | (exfalso; simp_all; done) | (exfalso; simp_all; omega)) ?_
            exact hret (sp, bo) H locs _ _ (⟨(by (try dsimp only); (repeat' split) <;> first | rfl | omega | contradiction | (exfalso; simp_all; done) | (exfalso; simp_all; omega)), (by (try dsimp only); (repeat' split) <;> first | rfl | omega | contradiction | (exfalso; simp_all; done) | (exfalso; simp_all; omega))⟩) hP hD hS dX3_set_32
        · skip
          refine kx_sipush (z := 500) hx hb dX3_set_19 (by decide) ?_
          refine lv_goto (tgt := 27) hx hb dX3_set_22 (by decide) ?_
          refine kx_icmp_le (tgt := 33) hx hb (by omega) (by omega) dX3_set_27 (by decide) (fun h27 => ?_) (fun h27 => ?_)
          · skip
            refine lv_iload_n hx hb dX3_set_33 rfl (lv_at hl 1 rfl) ?_
            refine kx_if_ne (tgt := 50) hx hb (by omega) dX3_set_34 (by decide) (fun h34 => ?_) (fun h34 => ?_)
            · skip
              refine lv_aload_n hx hb dX3_set_50 rfl (lv_at hl 0 rfl) ?_
              refine va_get (D := D) (ci := 3) (v := .int (iI bo)) (C := RX3) (T := TX3) (N := 10) hx hb hts iX3 hown hK.1 hP 0 rfl rfl 7 (by decide) (hts (.fieldLink RX3 46 "CloseClocks" "boost" "I") (by decide +kernel)) (fun _ h9 => h9) rfl dX3_set_51 ?_
              refine lv_istore_n (lv' := [(3, .int (iI bo)), (0, .ref x), (1, .int (iI q)), (2, .int (iI z))]) hx hb dX3_set_54 rfl hl (by decide) rfl (fun ls hl => ?_)
              refine lv_aload_n hx hb dX3_set_55 rfl (lv_at hl 1 rfl) ?_
              refine lv_iload_n hx hb dX3_set_56 rfl (lv_at hl 3 rfl) ?_
              refine va_put (D := D) (ci := 3) (v := .int (iI z)) (ty := .int) (C := RX3) (T := TX3) (N := 10) hx hb hts iX3 tyX3 tyX3_ok nmX3 hown hK.1 hP hD hS 0 rfl rfl 7 (by decide) (hts (.fieldLink RX3 46 "CloseClocks" "boost" "I") (by decide +kernel)) (fun _ h9 => h9) rfl (by decide +kernel) rfl rfl (Nat.le_of_ble_eq_true rfl) dX3_set_57 (fun H locs hP hD hS => ?_)
              have hP : va_P D vwCl (xW cI cZ x p p1 n n1 n2 n3 a a1 a2 a3 a4 a5 a6 k k1 k2 k3 k4 k5 k6 t t1 t2 t3 t4 t5 t6 le te no li dg nb wy pa ra fa ft dy er ti gr ah be pak rak fak ftk dyk erk tik grk ahk bek pat rat fat ftt dyt ert tit grt aht bet ik sp z nr te9) H := hP
              have hD : va_D A (xW cI cZ x p p1 n n1 n2 n3 a a1 a2 a3 a4 a5 a6 k k1 k2 k3 k4 k5 k6 t t1 t2 t3 t4 t5 t6 le te no li dg nb wy pa ra fa ft dy er ti gr ah be pak rak fak ftk dyk erk tik grk ahk bek pat rat fat ftt dyt ert tit grt aht bet ik sp z nr te9) := hD
              refine lv_iload_n hx hb dX3_set_60 rfl (lv_at hl 0 rfl) ?_
              refine kx_top (b := (if ¬ ((0 ≤ q ∧ q ≤ 1) ∧ (1 ≤ z ∧ z ≤ (if q = 0 then 500 else 60))) then -100000003 else if q = 0 then sp else bo)) (by (repeat' split) <;> first | rfl | omega | contradiction | (exfalso; simp_all; done) | (exfalso; simp_all; omega)) ?_
              exact hret (sp, z) H locs _ _ (⟨(by (try dsimp only); (repeat' split) <;> first | rfl | omega | contradiction | (exfalso; simp_all; done) | (exfalso; simp_all; omega)), (by (try dsimp only); (repeat' split) <;> first | rfl | omega | contradiction | (exfalso; simp_all; done) | (exfalso; simp_all; omega))⟩) hP hD hS dX3_set_61
            · skip
              refine lv_aload_n hx hb dX3_set_37 rfl (lv_at hl 0 rfl) ?_
              refine va_get (D := D) (ci := 3) (v := .int (iI sp)) (C := RX3) (T := TX3) (N := 10) hx hb hts iX3 hown hK.1 hP 0 rfl rfl 6 (by decide) (hts (.fieldLink RX3 42 "CloseClocks" "step" "I") (by decide +kernel)) (fun _ h9 => h9) rfl dX3_set_38 ?_
              refine lv_istore_n (lv' := [(3, .int (iI sp)), (0, .ref x), (1, .int (iI q)), (2, .int (iI z))]) hx hb dX3_set_41 rfl hl (by decide) rfl (fun ls hl => ?_)
              refine lv_aload_n hx hb dX3_set_42 rfl (lv_at hl 1 rfl) ?_
              refine lv_iload_n hx hb dX3_set_43 rfl (lv_at hl 3 rfl) ?_
              refine va_put (D := D) (ci := 3) (v := .int (iI z)) (ty := .int) (C := RX3) (T := TX3) (N := 10) hx hb hts iX3 tyX3 tyX3_ok nmX3 hown hK.1 hP hD hS 0 rfl rfl 6 (by decide) (hts (.fieldLink RX3 42 "CloseClocks" "step" "I") (by decide +kernel)) (fun _ h9 => h9) rfl (by decide +kernel) rfl rfl (Nat.le_of_ble_eq_true rfl) dX3_set_44 (fun H locs hP hD hS => ?_)
              have hP : va_P D vwCl (xW cI cZ x p p1 n n1 n2 n3 a a1 a2 a3 a4 a5 a6 k k1 k2 k3 k4 k5 k6 t t1 t2 t3 t4 t5 t6 le te no li dg nb wy pa ra fa ft dy er ti gr ah be pak rak fak ftk dyk erk tik grk ahk bek pat rat fat ftt dyt ert tit grt aht bet ik z bo nr te9) H := hP
              have hD : va_D A (xW cI cZ x p p1 n n1 n2 n3 a a1 a2 a3 a4 a5 a6 k k1 k2 k3 k4 k5 k6 t t1 t2 t3 t4 t5 t6 le te no li dg nb wy pa ra fa ft dy er ti gr ah be pak rak fak ftk dyk erk tik grk ahk bek pat rat fat ftt dyt ert tit grt aht bet ik z bo nr te9) := hD
              refine lv_goto (tgt := 60) hx hb dX3_set_47 (by decide) ?_
              refine lv_iload_n hx hb dX3_set_60 rfl (lv_at hl 0 rfl) ?_
              refine kx_top (b := (if ¬ ((0 ≤ q ∧ q ≤ 1) ∧ (1 ≤ z ∧ z ≤ (if q = 0 then 500 else 60))) then -100000003 else if q = 0 then sp else bo)) (by (repeat' split) <;> first | rfl | omega | contradiction | (exfalso; simp_all; done) | (exfalso; simp_all; omega)) ?_
              exact hret (z, bo) H locs _ _ (⟨(by (try dsimp only); (repeat' split) <;> first | rfl | omega | contradiction | (exfalso; simp_all; done) | (exfalso; simp_all; omega)), (by (try dsimp only); (repeat' split) <;> first | rfl | omega | contradiction | (exfalso; simp_all; done) | (exfalso; simp_all; omega))⟩) hP hD hS dX3_set_61
          · skip
            refine kx_ldc (z := -100000003) hx hb hown (hts (.constant RX3 55 (-100000003)) (by decide +kernel)) dX3_set_30 (by decide) ?_
            refine kx_top (b := (if ¬ ((0 ≤ q ∧ q ≤ 1) ∧ (1 ≤ z ∧ z ≤ (if q = 0 then 500 else 60))) then -100000003 else if q = 0 then sp else bo)) (by (repeat' split) <;> first | rfl | omega | contradiction | (exfalso; simp_all; done) | (exfalso; simp_all; omega)) ?_
            exact hret (sp, bo) H locs _ _ (⟨(by (try dsimp only); (repeat' split) <;> first | rfl | omega | contradiction | (exfalso; simp_all; done) | (exfalso; simp_all; omega)), (by (try dsimp only); (repeat' split) <;> first | rfl | omega | contradiction | (exfalso; simp_all; done) | (exfalso; simp_all; omega))⟩) hP hD hS dX3_set_32
def rm_X3_rate : Room := ({ frames := 1, cells := 0, slots := 0, locals := 21 } : Room)
set_option maxHeartbeats 4000000 in
set_option maxRecDepth 100000 in
theorem c_X3_rate (l : Launch) (D : va_G) (cI cZ : ClassId) (x p p1 n n1 n2 n3 a a1 a2 a3 a4 a5 a6 k k1 k2 k3 k4 k5 k6 t t1 t2 t3 t4 t5 t6 : Nat) (le : Int) (te : Nat → Int) (no li : Int) (dg nb wy pa ra fa ft dy er : Nat → Int) (ti gr ah be : Int) (pak rak fak ftk dyk erk : Nat → Int) (tik grk ahk bek : Int) (pat rat fat ftt dyt ert : Nat → Int) (tit grt aht bet ik sp bo nr te9 : Int) (z y : Int) (hno : 0 ≤ no ∧ no ≤ 6) (hz : -2147483648 ≤ z ∧ z < 2147483648) (hy9 : -2147483648 ≤ y ∧ y < 2147483648) : kWR l yX3_rate wsX3_rate rm_X3_rate D cI cZ [.ref x, .int (iI z), .int (iI y)] (xW cI cZ x p p1 n n1 n2 n3 a a1 a2 a3 a4 a5 a6 k k1 k2 k3 k4 k5 k6 t t1 t2 t3 t4 t5 t6 le te no li dg nb wy pa ra fa ft dy er ti gr ah be pak rak fak ftk dyk erk tik grk ahk bek pat rat fat ftt dyt ert tit grt aht bet ik sp bo nr te9) (fun u : (Nat → Int) => some (.int (iI (if ¬ (0 ≤ z ∧ z < no) then -100000002 else if ¬ (90 ≤ y ∧ y ≤ 110) then -100000003 else ra z.toNat)))) (fun u : (Nat → Int) => u = (if ((0 ≤ z ∧ z < no) ∧ (90 ≤ y ∧ y ≤ 110)) then va_up ra z.toNat y else ra)) (fun u : (Nat → Int) => xW cI cZ x p p1 n n1 n2 n3 a a1 a2 a3 a4 a5 a6 k k1 k2 k3 k4 k5 k6 t t1 t2 t3 t4 t5 t6 le te no li dg nb wy pa u fa ft dy er ti gr ah be pak rak fak ftk dyk erk tik grk ahk bek pat rat fat ftt dyt ert tit grt aht bet ik sp bo nr te9) 0 0 := by
  refine kx_WRi (cc := cX3_rate) (maxL := 4) (by decide) rfl (Nat.le_of_ble_eq_true rfl) ?_
  intro pr en s mi args below meth co Q A hx hb hml hown hts hK hin hA hP hD hS hret ls hl
  have hown : s.vm.findClass RX3 = some mi.cls := hown
  have iX3 : ∀ w ∈ wsX30, w ∈ wsX3_rate := by decide +kernel
  have iX0 : ∀ w ∈ wsX00, w ∈ wsX3_rate := by decide +kernel
  have hl : lv_has ls 4 [(0, .ref x), (1, .int (iI z)), (2, .int (iI y))] := hl
  generalize hH0 : s.heap = H0 at hA hP hS hret ⊢
  obtain ⟨H, hH⟩ : ∃ H : Heap, H = H0 := ⟨_, rfl⟩
  obtain ⟨locs, hlocs⟩ : ∃ locs : List Loc, locs = [] := ⟨_, rfl⟩
  have hS : va_S A H0 H locs := by rw [hH, hlocs]; exact hS
  have hP : va_P D vwCl (xW cI cZ x p p1 n n1 n2 n3 a a1 a2 a3 a4 a5 a6 k k1 k2 k3 k4 k5 k6 t t1 t2 t3 t4 t5 t6 le te no li dg nb wy pa ra fa ft dy er ti gr ah be pak rak fak ftk dyk erk tik grk ahk bek pat rat fat ftt dyt ert tit grt aht bet ik sp bo nr te9) H := by rw [hH]; exact hP
  suffices hgo : W pr l en rm_X3_rate s mi args below meth co H locs 0 0 Q (F0 mi 0 ls []) by rw [hH, hlocs] at hgo; exact hgo
  clear hH hlocs
  refine lv_aload_n hx hb dX3_rate_0 rfl (lv_at hl 0 rfl) ?_
  refine va_get (D := D) (ci := 3) (v := .ref n) (C := RX3) (T := TX3) (N := 10) hx hb hts iX3 hown hK.1 hP 0 rfl rfl 1 (by decide) (hts (.fieldLink RX3 19 "CloseClocks" "shape" "LCloseClocks$Net;") (by decide +kernel)) (fun _ h9 => h9) rfl dX3_rate_1 ?_
  refine lv_iload_n hx hb dX3_rate_4 rfl (lv_at hl 1 rfl) ?_
  refine kx_cV (As := [.int (iI z)]) (rest := []) (st1 := [.int (iI (if (0 ≤ z ∧ z < no) then 1 else 0))]) (q0 := 0) (ci := 1) ⟨hx, hb, hml, hown, hts⟩ (c_X1_hasNode l D cI cZ n n1 n2 n3 no li dg nb wy z (by first | assumption | omega) (by first | assumption | omega)) (cwV 1 hts gX3_rate_X1_hasNode rfl rfl rfl (by decide +kernel) ⟨Nat.le_of_ble_eq_true rfl, Nat.le_of_ble_eq_true rfl⟩) hK (hP.sub (ws' := ntW cI cZ n n1 n2 n3 no li dg nb wy) [3, 4, 5, 6] rfl) rfl rfl rfl hl.1 rfl (Nat.le_of_ble_eq_true rfl) dX3_rate_5 ⟨Nat.zero_le _, Nat.zero_le _⟩ rfl ?_
  refine kx_if_neB (tgt := 14) hx hb dX3_rate_8 (by decide) (fun h8 => ?_) (fun h8 => ?_)
  · skip
    refine lv_iload_n hx hb dX3_rate_14 rfl (lv_at hl 2 rfl) ?_
    refine kx_bipush (z := 90) hx hb dX3_rate_15 (by decide) ?_
    refine kx_icmp_lt (tgt := 26) hx hb (by omega) (by omega) dX3_rate_17 (by decide) (fun h17 => ?_) (fun h17 => ?_)
    · skip
      refine kx_ldc (z := -100000003) hx hb hown (hts (.constant RX3 55 (-100000003)) (by decide +kernel)) dX3_rate_26 (by decide) ?_
      refine kx_top (b := (if ¬ (0 ≤ z ∧ z < no) then -100000002 else if ¬ (90 ≤ y ∧ y ≤ 110) then -100000003 else ra z.toNat)) (by (repeat' split) <;> first | rfl | omega | contradiction | (exfalso; simp_all; done) | (exfalso; simp_all; omega)) ?_
      exact hret ra H locs _ _ (by (repeat' split) <;> first | rfl | omega | contradiction | (exfalso; simp_all; done) | (exfalso; simp_all; omega)) hP hD hS dX3_rate_28
    · skip
      refine lv_iload_n hx hb dX3_rate_20 rfl (lv_at hl 2 rfl) ?_
      refine kx_bipush (z := 110) hx hb dX3_rate_21 (by decide) ?_
      refine kx_icmp_le (tgt := 29) hx hb (by omega) (by omega) dX3_rate_23 (by decide) (fun h23 => ?_) (fun h23 => ?_)
      · skip
        refine lv_aload_n hx hb dX3_rate_29 rfl (lv_at hl 0 rfl) ?_
        refine va_get (D := D) (ci := 3) (v := .ref a) (C := RX3) (T := TX3) (N := 10) hx hb hts iX3 hown hK.1 hP 0 rfl rfl 2 (by decide) (hts (.fieldLink RX3 28 "CloseClocks" "now" "LCloseClocks$Clocks;") (by decide +kernel)) (fun _ h9 => h9) rfl dX3_rate_30 ?_
        refine va_getN (D := D) (ci := 0) (v := .ref a2) (C := RX0) (T := TX0) (N := 11) hx hb hts iX0 hown hK.1 hP 7 rfl rfl 2 (by decide) (va_Nw.use rfl (hK.2.1 (RX3, 91, RX0, "rates", "[I") (List.mem_of_getElem? (i := 7) rfl))) (fun _ h9 => h9) rfl dX3_rate_33 ?_
        refine lv_iload_n hx hb dX3_rate_36 rfl (lv_at hl 1 rfl) ?_
        refine kx_iald (k := z.toNat) hx hb hK hP 9 rfl (by omega) (by omega) (by decide) dX3_rate_37 ?_
        refine lv_istore_n (lv' := [(3, .int (iI (ra z.toNat))), (0, .ref x), (1, .int (iI z)), (2, .int (iI y))]) hx hb dX3_rate_38 rfl hl (by decide) rfl (fun ls hl => ?_)
        refine lv_aload_n hx hb dX3_rate_39 rfl (lv_at hl 1 rfl) ?_
        refine va_get (D := D) (ci := 3) (v := .ref a) (C := RX3) (T := TX3) (N := 10) hx hb hts iX3 hown hK.1 hP 0 rfl rfl 2 (by decide) (hts (.fieldLink RX3 28 "CloseClocks" "now" "LCloseClocks$Clocks;") (by decide +kernel)) (fun _ h9 => h9) rfl dX3_rate_40 ?_
        refine va_getN (D := D) (ci := 0) (v := .ref a2) (C := RX0) (T := TX0) (N := 11) hx hb hts iX0 hown hK.1 hP 7 rfl rfl 2 (by decide) (va_Nw.use rfl (hK.2.1 (RX3, 91, RX0, "rates", "[I") (List.mem_of_getElem? (i := 7) rfl))) (fun _ h9 => h9) rfl dX3_rate_43 ?_
        refine lv_iload_n hx hb dX3_rate_46 rfl (lv_at hl 2 rfl) ?_
        refine lv_iload_n hx hb dX3_rate_47 rfl (lv_at hl 3 rfl) ?_
        refine kx_iast (k := z.toNat) (x := y) hx hb hK hP hD hS 9 rfl (by omega) (by omega) (by decide) dX3_rate_48 (fun H locs hP hD hS => ?_)
        have hP : va_P D vwCl (xW cI cZ x p p1 n n1 n2 n3 a a1 a2 a3 a4 a5 a6 k k1 k2 k3 k4 k5 k6 t t1 t2 t3 t4 t5 t6 le te no li dg nb wy pa (va_up ra z.toNat y) fa ft dy er ti gr ah be pak rak fak ftk dyk erk tik grk ahk bek pat rat fat ftt dyt ert tit grt aht bet ik sp bo nr te9) H := hP
        have hD : va_D A (xW cI cZ x p p1 n n1 n2 n3 a a1 a2 a3 a4 a5 a6 k k1 k2 k3 k4 k5 k6 t t1 t2 t3 t4 t5 t6 le te no li dg nb wy pa (va_up ra z.toNat y) fa ft dy er ti gr ah be pak rak fak ftk dyk erk tik grk ahk bek pat rat fat ftt dyt ert tit grt aht bet ik sp bo nr te9) := hD
        refine lv_iload_n hx hb dX3_rate_49 rfl (lv_at hl 0 rfl) ?_
        refine kx_top (b := (if ¬ (0 ≤ z ∧ z < no) then -100000002 else if ¬ (90 ≤ y ∧ y ≤ 110) then -100000003 else ra z.toNat)) (by (repeat' split) <;> first | rfl | omega | contradiction | (exfalso; simp_all; done) | (exfalso; simp_all; omega)) ?_
        exact hret (va_up ra z.toNat y) H locs _ _ (by (repeat' split) <;> first | rfl | omega | contradiction | (exfalso; simp_all; done) | (exfalso; simp_all; omega)) hP hD hS dX3_rate_50
      · skip
        refine kx_ldc (z := -100000003) hx hb hown (hts (.constant RX3 55 (-100000003)) (by decide +kernel)) dX3_rate_26 (by decide) ?_
        refine kx_top (b := (if ¬ (0 ≤ z ∧ z < no) then -100000002 else if ¬ (90 ≤ y ∧ y ≤ 110) then -100000003 else ra z.toNat)) (by (repeat' split) <;> first | rfl | omega | contradiction | (exfalso; simp_all; done) | (exfalso; simp_all; omega)) ?_
        exact hret ra H locs _ _ (by (repeat' split) <;> first | rfl | omega | contradiction | (exfalso; simp_all; done) | (exfalso; simp_all; omega)) hP hD hS dX3_rate_28
  · skip
    refine kx_ldc (z := -100000002) hx hb hown (hts (.constant RX3 90 (-100000002)) (by decide +kernel)) dX3_rate_11 (by decide) ?_
    refine kx_top (b := (if ¬ (0 ≤ z ∧ z < no) then -100000002 else if ¬ (90 ≤ y ∧ y ≤ 110) then -100000003 else ra z.toNat)) (by (repeat' split) <;> first | rfl | omega | contradiction | (exfalso; simp_all; done) | (exfalso; simp_all; omega)) ?_
    exact hret ra H locs _ _ (by (repeat' split) <;> first | rfl | omega | contradiction | (exfalso; simp_all; done) | (exfalso; simp_all; omega)) hP hD hS dX3_rate_13
def rm_X3_put : Room := ({ frames := 2, cells := 0, slots := 0, locals := 44 } : Room)
set_option maxHeartbeats 4000000 in
set_option maxRecDepth 100000 in
theorem c_X3_put (l : Launch) (D : va_G) (cI cZ : ClassId) (x p p1 n n1 n2 n3 a a1 a2 a3 a4 a5 a6 k k1 k2 k3 k4 k5 k6 t t1 t2 t3 t4 t5 t6 : Nat) (le : Int) (te : Nat → Int) (no li : Int) (dg nb wy pa ra fa ft dy er : Nat → Int) (ti gr ah be : Int) (pak rak fak ftk dyk erk : Nat → Int) (tik grk ahk bek : Int) (pat rat fat ftt dyt ert : Nat → Int) (tit grt aht bet ik sp bo nr te9 : Int) (z y : Int) (hno : 0 ≤ no ∧ no ≤ 6) (hz : -2147483648 ≤ z ∧ z < 2147483648) (hy9 : -2147483648 ≤ y ∧ y < 2147483648) : kWR l yX3_put wsX3_put rm_X3_put D cI cZ [.ref x, .int (iI z), .int (iI y)] (xW cI cZ x p p1 n n1 n2 n3 a a1 a2 a3 a4 a5 a6 k k1 k2 k3 k4 k5 k6 t t1 t2 t3 t4 t5 t6 le te no li dg nb wy pa ra fa ft dy er ti gr ah be pak rak fak ftk dyk erk tik grk ahk bek pat rat fat ftt dyt ert tit grt aht bet ik sp bo nr te9) (fun u : (Nat → Int) => some (.int (iI (if ¬ (0 ≤ z ∧ z < no) then -100000002 else if ¬ (0 ≤ y ∧ y ≤ 1000000) then -100000003 else pa z.toNat)))) (fun u : (Nat → Int) => u = (if ((0 ≤ z ∧ z < no) ∧ (0 ≤ y ∧ y ≤ 1000000)) then tcC pa z.toNat y else pa)) (fun u : (Nat → Int) => xW cI cZ x p p1 n n1 n2 n3 a a1 a2 a3 a4 a5 a6 k k1 k2 k3 k4 k5 k6 t t1 t2 t3 t4 t5 t6 le te no li dg nb wy u ra fa ft dy er ti gr ah be pak rak fak ftk dyk erk tik grk ahk bek pat rat fat ftt dyt ert tit grt aht bet ik sp bo nr te9) 0 0 := by
  refine kx_WRi (cc := cX3_put) (maxL := 4) (by decide) rfl (Nat.le_of_ble_eq_true rfl) ?_
  intro pr en s mi args below meth co Q A hx hb hml hown hts hK hin hA hP hD hS hret ls hl
  have hown : s.vm.findClass RX3 = some mi.cls := hown
  have iX3 : ∀ w ∈ wsX30, w ∈ wsX3_put := by decide +kernel
  have hl : lv_has ls 4 [(0, .ref x), (1, .int (iI z)), (2, .int (iI y))] := hl
  generalize hH0 : s.heap = H0 at hA hP hS hret ⊢
  obtain ⟨H, hH⟩ : ∃ H : Heap, H = H0 := ⟨_, rfl⟩
  obtain ⟨locs, hlocs⟩ : ∃ locs : List Loc, locs = [] := ⟨_, rfl⟩
  have hS : va_S A H0 H locs := by rw [hH, hlocs]; exact hS
  have hP : va_P D vwCl (xW cI cZ x p p1 n n1 n2 n3 a a1 a2 a3 a4 a5 a6 k k1 k2 k3 k4 k5 k6 t t1 t2 t3 t4 t5 t6 le te no li dg nb wy pa ra fa ft dy er ti gr ah be pak rak fak ftk dyk erk tik grk ahk bek pat rat fat ftt dyt ert tit grt aht bet ik sp bo nr te9) H := by rw [hH]; exact hP
  suffices hgo : W pr l en rm_X3_put s mi args below meth co H locs 0 0 Q (F0 mi 0 ls []) by rw [hH, hlocs] at hgo; exact hgo
  clear hH hlocs
  refine lv_aload_n hx hb dX3_put_0 rfl (lv_at hl 0 rfl) ?_
  refine va_get (D := D) (ci := 3) (v := .ref n) (C := RX3) (T := TX3) (N := 10) hx hb hts iX3 hown hK.1 hP 0 rfl rfl 1 (by decide) (hts (.fieldLink RX3 19 "CloseClocks" "shape" "LCloseClocks$Net;") (by decide +kernel)) (fun _ h9 => h9) rfl dX3_put_1 ?_
  refine lv_iload_n hx hb dX3_put_4 rfl (lv_at hl 1 rfl) ?_
  refine kx_cV (As := [.int (iI z)]) (rest := []) (st1 := [.int (iI (if (0 ≤ z ∧ z < no) then 1 else 0))]) (q0 := 0) (ci := 1) ⟨hx, hb, hml, hown, hts⟩ (c_X1_hasNode l D cI cZ n n1 n2 n3 no li dg nb wy z (by first | assumption | omega) (by first | assumption | omega)) (cwV 1 hts gX3_put_X1_hasNode rfl rfl rfl (by decide +kernel) ⟨Nat.le_of_ble_eq_true rfl, Nat.le_of_ble_eq_true rfl⟩) hK (hP.sub (ws' := ntW cI cZ n n1 n2 n3 no li dg nb wy) [3, 4, 5, 6] rfl) rfl rfl rfl hl.1 rfl (Nat.le_of_ble_eq_true rfl) dX3_put_5 ⟨Nat.zero_le _, Nat.zero_le _⟩ rfl ?_
  refine kx_if_neB (tgt := 14) hx hb dX3_put_8 (by decide) (fun h8 => ?_) (fun h8 => ?_)
  · skip
    refine lv_iload_n hx hb dX3_put_14 rfl (lv_at hl 2 rfl) ?_
    refine kx_if_lt (tgt := 24) hx hb (by omega) dX3_put_15 (by decide) (fun h15 => ?_) (fun h15 => ?_)
    · skip
      refine kx_ldc (z := -100000003) hx hb hown (hts (.constant RX3 55 (-100000003)) (by decide +kernel)) dX3_put_24 (by decide) ?_
      refine kx_top (b := (if ¬ (0 ≤ z ∧ z < no) then -100000002 else if ¬ (0 ≤ y ∧ y ≤ 1000000) then -100000003 else pa z.toNat)) (by (repeat' split) <;> first | rfl | omega | contradiction | (exfalso; simp_all; done) | (exfalso; simp_all; omega)) ?_
      exact hret pa H locs _ _ (by (repeat' split) <;> first | rfl | omega | contradiction | (exfalso; simp_all; done) | (exfalso; simp_all; omega)) hP hD hS dX3_put_26
    · skip
      refine lv_iload_n hx hb dX3_put_18 rfl (lv_at hl 2 rfl) ?_
      refine kx_ldc (z := 1000000) hx hb hown (hts (.constant RX3 95 (1000000)) (by decide +kernel)) dX3_put_19 (by decide) ?_
      refine kx_icmp_le (tgt := 27) hx hb (by omega) (by omega) dX3_put_21 (by decide) (fun h21 => ?_) (fun h21 => ?_)
      · skip
        refine lv_aload_n hx hb dX3_put_27 rfl (lv_at hl 0 rfl) ?_
        refine va_get (D := D) (ci := 3) (v := .ref a) (C := RX3) (T := TX3) (N := 10) hx hb hts iX3 hown hK.1 hP 0 rfl rfl 2 (by decide) (hts (.fieldLink RX3 28 "CloseClocks" "now" "LCloseClocks$Clocks;") (by decide +kernel)) (fun _ h9 => h9) rfl dX3_put_28 ?_
        refine lv_iload_n hx hb dX3_put_31 rfl (lv_at hl 1 rfl) ?_
        refine kx_top (b := ((z.toNat : Nat) : Int)) (by omega) ?_
        refine kx_cV (As := [.int (iI ((z.toNat : Nat) : Int))]) (rest := []) (st1 := [.int (iI (pa (z.toNat)))]) (q0 := 0) (ci := 0) ⟨hx, hb, hml, hown, hts⟩ (c_X0_clockOf l D cI cZ a a1 a2 a3 a4 a5 a6 n n1 n2 n3 pa ra fa ft dy er ti gr ah be no li dg nb wy (z.toNat) (by first | assumption | omega)) (cwV 1 hts gX3_put_X0_clockOf rfl rfl rfl (by decide +kernel) ⟨Nat.le_of_ble_eq_true rfl, Nat.le_of_ble_eq_true rfl⟩) hK (hP.sub (ws' := ckW cI cZ a a1 a2 a3 a4 a5 a6 n n1 n2 n3 pa ra fa ft dy er ti gr ah be no li dg nb wy) [7, 8, 9, 10, 11, 12, 13, 3, 4, 5, 6] rfl) rfl rfl rfl hl.1 rfl (Nat.le_of_ble_eq_true rfl) dX3_put_32 ⟨Nat.zero_le _, Nat.zero_le _⟩ rfl ?_
        refine lv_istore_n (lv' := [(3, .int (iI (pa (z.toNat)))), (0, .ref x), (1, .int (iI z)), (2, .int (iI y))]) hx hb dX3_put_35 rfl hl (by decide) rfl (fun ls hl => ?_)
        refine lv_aload_n hx hb dX3_put_36 rfl (lv_at hl 1 rfl) ?_
        refine va_get (D := D) (ci := 3) (v := .ref a) (C := RX3) (T := TX3) (N := 10) hx hb hts iX3 hown hK.1 hP 0 rfl rfl 2 (by decide) (hts (.fieldLink RX3 28 "CloseClocks" "now" "LCloseClocks$Clocks;") (by decide +kernel)) (fun _ h9 => h9) rfl dX3_put_37 ?_
        refine lv_iload_n hx hb dX3_put_40 rfl (lv_at hl 2 rfl) ?_
        refine kx_top (b := ((z.toNat : Nat) : Int)) (by omega) ?_
        refine lv_iload_n hx hb dX3_put_41 rfl (lv_at hl 3 rfl) ?_
        refine kx_cVW (As := [.int (iI ((z.toNat : Nat) : Int)), .int (iI y)]) (rest := []) (wr := [(x, .inr (3, [.ref p, .ref n, .ref a, .ref k, .ref t, .int (iI ik), .int (iI sp), .int (iI bo), .int (iI nr), .int (iI te9)])), (p, .inr (2, [.ref p1, .int (iI le)])), (p1, aI cI 61 te), (k, .inr (0, [.ref n, .ref k1, .ref k2, .ref k3, .ref k4, .ref k5, .ref k6, .int (iI tik), .int (iI grk), .int (iI ahk), .int (iI bek)])), (k1, aI cI 24 pak), (k2, aI cI 6 rak), (k3, aI cI 6 fak), (k4, aI cI 6 ftk), (k5, aI cI 36 dyk), (k6, aI cI 36 erk), (t, .inr (0, [.ref n, .ref t1, .ref t2, .ref t3, .ref t4, .ref t5, .ref t6, .int (iI tit), .int (iI grt), .int (iI aht), .int (iI bet)])), (t1, aI cI 24 pat), (t2, aI cI 6 rat), (t3, aI cI 6 fat), (t4, aI cI 6 ftt), (t5, aI cI 36 dyt), (t6, aI cI 36 ert)]) (q0 := 0) (ci := 0) ⟨hx, hb, hml, hown, hts⟩ (c_X0_tellClock l D cI cZ a a1 a2 a3 a4 a5 a6 n n1 n2 n3 pa ra fa ft dy er ti gr ah be no li dg nb wy (z.toNat) y (by first | assumption | omega)) (cwV 2 hts gX3_put_X0_tellClock rfl rfl rfl (by decide +kernel) ⟨Nat.le_of_ble_eq_true rfl, Nat.le_of_ble_eq_true rfl⟩) hK hP hD hS hA [7, 8, 9, 10, 11, 12, 13, 3, 4, 5, 6] [0, 1, 2, 14, 15, 16, 17, 18, 19, 20, 21, 22, 23, 24, 25, 26, 27] rfl rfl (by decide) (by decide) (by decide) rfl rfl rfl hl.1 rfl (Nat.le_of_ble_eq_true rfl) dX3_put_42 ⟨Nat.le_of_ble_eq_true rfl, Nat.le_of_ble_eq_true rfl⟩ (fun u H locs hq hP hD hS => ?_)
        have hP : va_P D vwCl (xW cI cZ x p p1 n n1 n2 n3 a a1 a2 a3 a4 a5 a6 k k1 k2 k3 k4 k5 k6 t t1 t2 t3 t4 t5 t6 le te no li dg nb wy (tcC pa (z.toNat) y) ra fa ft dy er ti gr ah be pak rak fak ftk dyk erk tik grk ahk bek pat rat fat ftt dyt ert tit grt aht bet ik sp bo nr te9) H := hP.sub [0, 1, 2, 24, 25, 26, 27, 17, 18, 19, 20, 21, 22, 23, 3, 4, 5, 6, 7, 8, 9, 10, 11, 12, 13, 14, 15, 16] rfl
        have hD : va_D A (xW cI cZ x p p1 n n1 n2 n3 a a1 a2 a3 a4 a5 a6 k k1 k2 k3 k4 k5 k6 t t1 t2 t3 t4 t5 t6 le te no li dg nb wy (tcC pa (z.toNat) y) ra fa ft dy er ti gr ah be pak rak fak ftk dyk erk tik grk ahk bek pat rat fat ftt dyt ert tit grt aht bet ik sp bo nr te9) := hD.sub [0, 1, 2, 24, 25, 26, 27, 17, 18, 19, 20, 21, 22, 23, 3, 4, 5, 6, 7, 8, 9, 10, 11, 12, 13, 14, 15, 16] (by decide) rfl
        refine W.eq (g2 := F0 mi 45 ls []) rfl ?_
        refine lv_iload_n hx hb dX3_put_45 rfl (lv_at hl 0 rfl) ?_
        refine kx_top (b := (if ¬ (0 ≤ z ∧ z < no) then -100000002 else if ¬ (0 ≤ y ∧ y ≤ 1000000) then -100000003 else pa z.toNat)) (by (repeat' split) <;> first | rfl | omega | contradiction | (exfalso; simp_all; done) | (exfalso; simp_all; omega)) ?_
        exact hret (tcC pa (z.toNat) y) H locs _ _ (by (repeat' split) <;> first | rfl | omega | contradiction | (exfalso; simp_all; done) | (exfalso; simp_all; omega)) hP hD hS dX3_put_46
      · skip
        refine kx_ldc (z := -100000003) hx hb hown (hts (.constant RX3 55 (-100000003)) (by decide +kernel)) dX3_put_24 (by decide) ?_
        refine kx_top (b := (if ¬ (0 ≤ z ∧ z < no) then -100000002 else if ¬ (0 ≤ y ∧ y ≤ 1000000) then -100000003 else pa z.toNat)) (by (repeat' split) <;> first | rfl | omega | contradiction | (exfalso; simp_all; done) | (exfalso; simp_all; omega)) ?_
        exact hret pa H locs _ _ (by (repeat' split) <;> first | rfl | omega | contradiction | (exfalso; simp_all; done) | (exfalso; simp_all; omega)) hP hD hS dX3_put_26
  · skip
    refine kx_ldc (z := -100000002) hx hb hown (hts (.constant RX3 90 (-100000002)) (by decide +kernel)) dX3_put_11 (by decide) ?_
    refine kx_top (b := (if ¬ (0 ≤ z ∧ z < no) then -100000002 else if ¬ (0 ≤ y ∧ y ≤ 1000000) then -100000003 else pa z.toNat)) (by (repeat' split) <;> first | rfl | omega | contradiction | (exfalso; simp_all; done) | (exfalso; simp_all; omega)) ?_
    exact hret pa H locs _ _ (by (repeat' split) <;> first | rfl | omega | contradiction | (exfalso; simp_all; done) | (exfalso; simp_all; omega)) hP hD hS dX3_put_13
def rm_X3_wrong : Room := ({ frames := 2, cells := 0, slots := 0, locals := 43 } : Room)
set_option maxHeartbeats 4000000 in
set_option maxRecDepth 100000 in
theorem c_X3_wrong (l : Launch) (D : va_G) (cI cZ : ClassId) (x p p1 n n1 n2 n3 a a1 a2 a3 a4 a5 a6 k k1 k2 k3 k4 k5 k6 t t1 t2 t3 t4 t5 t6 : Nat) (le : Int) (te : Nat → Int) (no li : Int) (dg nb wy pa ra fa ft dy er : Nat → Int) (ti gr ah be : Int) (pak rak fak ftk dyk erk : Nat → Int) (tik grk ahk bek : Int) (pat rat fat ftt dyt ert : Nat → Int) (tit grt aht bet ik sp bo nr te9 : Int) (z w y : Int) (hno : 0 ≤ no ∧ no ≤ 6) (hwy : ∀ k : Nat, k < 36 → 0 ≤ wy k ∧ wy k ≤ 1000) (hz : -2147483648 ≤ z ∧ z < 2147483648) (hw : -2147483648 ≤ w ∧ w < 2147483648) (hy9 : -2147483648 ≤ y ∧ y < 2147483648) : kWR l yX3_wrong wsX3_wrong rm_X3_wrong D cI cZ [.ref x, .int (iI z), .int (iI w), .int (iI y)] (xW cI cZ x p p1 n n1 n2 n3 a a1 a2 a3 a4 a5 a6 k k1 k2 k3 k4 k5 k6 t t1 t2 t3 t4 t5 t6 le te no li dg nb wy pa ra fa ft dy er ti gr ah be pak rak fak ftk dyk erk tik grk ahk bek pat rat fat ftt dyt ert tit grt aht bet ik sp bo nr te9) (fun u : (Nat → Int) => some (.int (iI (if ¬ xHL wy no z w = true then -100000002 else if ¬ (-9 ≤ y ∧ y ≤ 9) then -100000003 else er (z * 6 + w).toNat)))) (fun u : (Nat → Int) => u = (if (xHL wy no z w = true ∧ (-9 ≤ y ∧ y ≤ 9)) then va_up er (z * 6 + w).toNat y else er)) (fun u : (Nat → Int) => xW cI cZ x p p1 n n1 n2 n3 a a1 a2 a3 a4 a5 a6 k k1 k2 k3 k4 k5 k6 t t1 t2 t3 t4 t5 t6 le te no li dg nb wy pa ra fa ft dy u ti gr ah be pak rak fak ftk dyk erk tik grk ahk bek pat rat fat ftt dyt ert tit grt aht bet ik sp bo nr te9) 0 0 := by
  refine kx_WRi (cc := cX3_wrong) (maxL := 5) (by decide) rfl (Nat.le_of_ble_eq_true rfl) ?_
  intro pr en s mi args below meth co Q A hx hb hml hown hts hK hin hA hP hD hS hret ls hl
  have hown : s.vm.findClass RX3 = some mi.cls := hown
  have iX3 : ∀ w ∈ wsX30, w ∈ wsX3_wrong := by decide +kernel
  have iX0 : ∀ w ∈ wsX00, w ∈ wsX3_wrong := by decide +kernel
  have hl : lv_has ls 5 [(0, .ref x), (1, .int (iI z)), (2, .int (iI w)), (3, .int (iI y))] := hl
  generalize hH0 : s.heap = H0 at hA hP hS hret ⊢
  obtain ⟨H, hH⟩ : ∃ H : Heap, H = H0 := ⟨_, rfl⟩
  obtain ⟨locs, hlocs⟩ : ∃ locs : List Loc, locs = [] := ⟨_, rfl⟩
  have hS : va_S A H0 H locs := by rw [hH, hlocs]; exact hS
  have hP : va_P D vwCl (xW cI cZ x p p1 n n1 n2 n3 a a1 a2 a3 a4 a5 a6 k k1 k2 k3 k4 k5 k6 t t1 t2 t3 t4 t5 t6 le te no li dg nb wy pa ra fa ft dy er ti gr ah be pak rak fak ftk dyk erk tik grk ahk bek pat rat fat ftt dyt ert tit grt aht bet ik sp bo nr te9) H := by rw [hH]; exact hP
  suffices hgo : W pr l en rm_X3_wrong s mi args below meth co H locs 0 0 Q (F0 mi 0 ls []) by rw [hH, hlocs] at hgo; exact hgo
  clear hH hlocs
  refine lv_aload_n hx hb dX3_wrong_0 rfl (lv_at hl 0 rfl) ?_
  refine va_get (D := D) (ci := 3) (v := .ref n) (C := RX3) (T := TX3) (N := 10) hx hb hts iX3 hown hK.1 hP 0 rfl rfl 1 (by decide) (hts (.fieldLink RX3 19 "CloseClocks" "shape" "LCloseClocks$Net;") (by decide +kernel)) (fun _ h9 => h9) rfl dX3_wrong_1 ?_
  refine lv_iload_n hx hb dX3_wrong_4 rfl (lv_at hl 1 rfl) ?_
  refine lv_iload_n hx hb dX3_wrong_5 rfl (lv_at hl 2 rfl) ?_
  refine kx_cV (As := [.int (iI z), .int (iI w)]) (rest := []) (st1 := [.int (iI (if ((0 ≤ z ∧ z < no) ∧ (0 ≤ w ∧ w < no) ∧ wy ((z * 6 + w).toNat) = 1) then 1 else 0))]) (q0 := 0) (ci := 1) ⟨hx, hb, hml, hown, hts⟩ (c_X1_hasLink l D cI cZ n n1 n2 n3 no li dg nb wy z w (by first | assumption | omega) (by first | assumption | omega) (by first | assumption | omega) (by first | assumption | omega)) (cwV 2 hts gX3_wrong_X1_hasLink rfl rfl rfl (by decide +kernel) ⟨Nat.le_of_ble_eq_true rfl, Nat.le_of_ble_eq_true rfl⟩) hK (hP.sub (ws' := ntW cI cZ n n1 n2 n3 no li dg nb wy) [3, 4, 5, 6] rfl) rfl rfl rfl hl.1 rfl (Nat.le_of_ble_eq_true rfl) dX3_wrong_6 ⟨Nat.zero_le _, Nat.zero_le _⟩ rfl ?_
  refine kx_if_neB (tgt := 15) hx hb dX3_wrong_9 (by decide) (fun h9 => ?_) (fun h9 => ?_)
  · skip
    replace h9 := xHL_iff.mpr h9
    have hb9 := xHL_iff.mp h9
    refine lv_iload_n hx hb dX3_wrong_15 rfl (lv_at hl 3 rfl) ?_
    refine kx_bipush (z := -9) hx hb dX3_wrong_16 (by decide) ?_
    refine kx_icmp_lt (tgt := 27) hx hb (by omega) (by omega) dX3_wrong_18 (by decide) (fun h18 => ?_) (fun h18 => ?_)
    · skip
      refine kx_ldc (z := -100000003) hx hb hown (hts (.constant RX3 55 (-100000003)) (by decide +kernel)) dX3_wrong_27 (by decide) ?_
      refine kx_top (b := (if ¬ xHL wy no z w = true then -100000002 else if ¬ (-9 ≤ y ∧ y ≤ 9) then -100000003 else er (z * 6 + w).toNat)) (by (repeat' split) <;> first | rfl | omega | contradiction | (exfalso; simp_all [xHL_iff]; done) | (exfalso; simp_all [xHL_iff]; omega)) ?_
      exact hret er H locs _ _ (by (repeat' split) <;> first | rfl | omega | contradiction | (exfalso; simp_all [xHL_iff]; done) | (exfalso; simp_all [xHL_iff]; omega)) hP hD hS dX3_wrong_29
    · skip
      refine lv_iload_n hx hb dX3_wrong_21 rfl (lv_at hl 3 rfl) ?_
      refine kx_bipush (z := 9) hx hb dX3_wrong_22 (by decide) ?_
      refine kx_icmp_le (tgt := 30) hx hb (by omega) (by omega) dX3_wrong_24 (by decide) (fun h24 => ?_) (fun h24 => ?_)
      · skip
        refine lv_aload_n hx hb dX3_wrong_30 rfl (lv_at hl 0 rfl) ?_
        refine va_get (D := D) (ci := 3) (v := .ref a) (C := RX3) (T := TX3) (N := 10) hx hb hts iX3 hown hK.1 hP 0 rfl rfl 2 (by decide) (hts (.fieldLink RX3 28 "CloseClocks" "now" "LCloseClocks$Clocks;") (by decide +kernel)) (fun _ h9 => h9) rfl dX3_wrong_31 ?_
        refine va_getN (D := D) (ci := 0) (v := .ref a6) (C := RX0) (T := TX0) (N := 11) hx hb hts iX0 hown hK.1 hP 7 rfl rfl 6 (by decide) (va_Nw.use rfl (hK.2.1 (RX3, 107, RX0, "errors", "[I") (List.mem_of_getElem? (i := 11) rfl))) (fun _ h9 => h9) rfl dX3_wrong_34 ?_
        refine lv_iload_n hx hb dX3_wrong_37 rfl (lv_at hl 1 rfl) ?_
        refine lv_iload_n hx hb dX3_wrong_38 rfl (lv_at hl 2 rfl) ?_
        refine kx_cS (As := [.int (iI z), .int (iI w)]) (rest := [.ref a6]) (st1 := [.int (iI ((z * 6) + w)), .ref a6]) ⟨hx, hb, hml, hown, hts⟩ (c_X3_cell l D cI cZ z w ) (va_cwS 2 hts gX3_wrong_X3_cell rfl rfl rfl (by decide +kernel) ⟨Nat.le_of_ble_eq_true rfl, Nat.le_of_ble_eq_true rfl⟩) hK (hP.sub (ws' := []) [] rfl) rfl hl.1 rfl (Nat.le_of_ble_eq_true rfl) dX3_wrong_39 ⟨Nat.zero_le _, Nat.zero_le _⟩ rfl ?_
        refine kx_iald (k := ((z * 6 + w).toNat)) hx hb hK hP 13 rfl (by omega) (by omega) (by decide) dX3_wrong_42 ?_
        refine lv_istore (lv' := [(4, .int (iI (er ((z * 6 + w).toNat)))), (0, .ref x), (1, .int (iI z)), (2, .int (iI w)), (3, .int (iI y))]) hx hb dX3_wrong_43 hl (by decide) rfl (fun ls hl => ?_)
        refine lv_aload_n hx hb dX3_wrong_45 rfl (lv_at hl 1 rfl) ?_
        refine va_get (D := D) (ci := 3) (v := .ref a) (C := RX3) (T := TX3) (N := 10) hx hb hts iX3 hown hK.1 hP 0 rfl rfl 2 (by decide) (hts (.fieldLink RX3 28 "CloseClocks" "now" "LCloseClocks$Clocks;") (by decide +kernel)) (fun _ h9 => h9) rfl dX3_wrong_46 ?_
        refine va_getN (D := D) (ci := 0) (v := .ref a6) (C := RX0) (T := TX0) (N := 11) hx hb hts iX0 hown hK.1 hP 7 rfl rfl 6 (by decide) (va_Nw.use rfl (hK.2.1 (RX3, 107, RX0, "errors", "[I") (List.mem_of_getElem? (i := 11) rfl))) (fun _ h9 => h9) rfl dX3_wrong_49 ?_
        refine lv_iload_n hx hb dX3_wrong_52 rfl (lv_at hl 2 rfl) ?_
        refine lv_iload_n hx hb dX3_wrong_53 rfl (lv_at hl 3 rfl) ?_
        refine kx_cS (As := [.int (iI z), .int (iI w)]) (rest := [.ref a6]) (st1 := [.int (iI ((z * 6) + w)), .ref a6]) ⟨hx, hb, hml, hown, hts⟩ (c_X3_cell l D cI cZ z w ) (va_cwS 2 hts gX3_wrong_X3_cell rfl rfl rfl (by decide +kernel) ⟨Nat.le_of_ble_eq_true rfl, Nat.le_of_ble_eq_true rfl⟩) hK (hP.sub (ws' := []) [] rfl) rfl hl.1 rfl (Nat.le_of_ble_eq_true rfl) dX3_wrong_54 ⟨Nat.zero_le _, Nat.zero_le _⟩ rfl ?_
        refine lv_iload_n hx hb dX3_wrong_57 rfl (lv_at hl 4 rfl) ?_
        refine kx_iast (k := ((z * 6 + w).toNat)) (x := y) hx hb hK hP hD hS 13 rfl (by omega) (by omega) (by decide) dX3_wrong_58 (fun H locs hP hD hS => ?_)
        have hP : va_P D vwCl (xW cI cZ x p p1 n n1 n2 n3 a a1 a2 a3 a4 a5 a6 k k1 k2 k3 k4 k5 k6 t t1 t2 t3 t4 t5 t6 le te no li dg nb wy pa ra fa ft dy (va_up er ((z * 6 + w).toNat) y) ti gr ah be pak rak fak ftk dyk erk tik grk ahk bek pat rat fat ftt dyt ert tit grt aht bet ik sp bo nr te9) H := hP
        have hD : va_D A (xW cI cZ x p p1 n n1 n2 n3 a a1 a2 a3 a4 a5 a6 k k1 k2 k3 k4 k5 k6 t t1 t2 t3 t4 t5 t6 le te no li dg nb wy pa ra fa ft dy (va_up er ((z * 6 + w).toNat) y) ti gr ah be pak rak fak ftk dyk erk tik grk ahk bek pat rat fat ftt dyt ert tit grt aht bet ik sp bo nr te9) := hD
        refine lv_iload hx hb dX3_wrong_59 (lv_at hl 0 rfl) ?_
        refine kx_top (b := (if ¬ xHL wy no z w = true then -100000002 else if ¬ (-9 ≤ y ∧ y ≤ 9) then -100000003 else er (z * 6 + w).toNat)) (by (repeat' split) <;> first | rfl | omega | contradiction | (exfalso; simp_all [xHL_iff]; done) | (exfalso; simp_all [xHL_iff]; omega)) ?_
        exact hret (va_up er ((z * 6 + w).toNat) y) H locs _ _ (by (repeat' split) <;> first | rfl | omega | contradiction | (exfalso; simp_all [xHL_iff]; done) | (exfalso; simp_all [xHL_iff]; omega)) hP hD hS dX3_wrong_61
      · skip
        refine kx_ldc (z := -100000003) hx hb hown (hts (.constant RX3 55 (-100000003)) (by decide +kernel)) dX3_wrong_27 (by decide) ?_
        refine kx_top (b := (if ¬ xHL wy no z w = true then -100000002 else if ¬ (-9 ≤ y ∧ y ≤ 9) then -100000003 else er (z * 6 + w).toNat)) (by (repeat' split) <;> first | rfl | omega | contradiction | (exfalso; simp_all [xHL_iff]; done) | (exfalso; simp_all [xHL_iff]; omega)) ?_
        exact hret er H locs _ _ (by (repeat' split) <;> first | rfl | omega | contradiction | (exfalso; simp_all [xHL_iff]; done) | (exfalso; simp_all [xHL_iff]; omega)) hP hD hS dX3_wrong_29
  · skip
    replace h9 := mt xHL_iff.mp h9
    refine kx_ldc (z := -100000002) hx hb hown (hts (.constant RX3 90 (-100000002)) (by decide +kernel)) dX3_wrong_12 (by decide) ?_
    refine kx_top (b := (if ¬ xHL wy no z w = true then -100000002 else if ¬ (-9 ≤ y ∧ y ≤ 9) then -100000003 else er (z * 6 + w).toNat)) (by (repeat' split) <;> first | rfl | omega | contradiction | (exfalso; simp_all [xHL_iff]; done) | (exfalso; simp_all [xHL_iff]; omega)) ?_
    exact hret er H locs _ _ (by (repeat' split) <;> first | rfl | omega | contradiction | (exfalso; simp_all [xHL_iff]; done) | (exfalso; simp_all [xHL_iff]; omega)) hP hD hS dX3_wrong_14
def rm_X3_delay : Room := ({ frames := 3, cells := 0, slots := 0, locals := 66 } : Room)
set_option maxHeartbeats 4000000 in
set_option maxRecDepth 100000 in
theorem c_X3_delay (l : Launch) (D : va_G) (cI cZ : ClassId) (x p p1 n n1 n2 n3 a a1 a2 a3 a4 a5 a6 k k1 k2 k3 k4 k5 k6 t t1 t2 t3 t4 t5 t6 : Nat) (le : Int) (te : Nat → Int) (no li : Int) (dg nb wy pa ra fa ft dy er : Nat → Int) (ti gr ah be : Int) (pak rak fak ftk dyk erk : Nat → Int) (tik grk ahk bek : Int) (pat rat fat ftt dyt ert : Nat → Int) (tit grt aht bet ik sp bo nr te9 : Int) (z w y : Int) (hno : 0 ≤ no ∧ no ≤ 6) (hwy : ∀ k : Nat, k < 36 → 0 ≤ wy k ∧ wy k ≤ 1000) (hz : -2147483648 ≤ z ∧ z < 2147483648) (hw : -2147483648 ≤ w ∧ w < 2147483648) (hy9 : -2147483648 ≤ y ∧ y < 2147483648) : kWR l yX3_delay wsX3_delay rm_X3_delay D cI cZ [.ref x, .int (iI z), .int (iI w), .int (iI y)] (xW cI cZ x p p1 n n1 n2 n3 a a1 a2 a3 a4 a5 a6 k k1 k2 k3 k4 k5 k6 t t1 t2 t3 t4 t5 t6 le te no li dg nb wy pa ra fa ft dy er ti gr ah be pak rak fak ftk dyk erk tik grk ahk bek pat rat fat ftt dyt ert tit grt aht bet ik sp bo nr te9) (fun u : (Nat → Int) => some (.int (iI (if ¬ xHL wy no z w = true then -100000002 else if ¬ (0 ≤ y ∧ y ≤ 3) then -100000003 else dy (z * 6 + w).toNat)))) (fun u : (Nat → Int) => u = (if (xHL wy no z w = true ∧ (0 ≤ y ∧ y ≤ 3)) then va_up (va_up dy (z.toNat * 6 + w.toNat) y) (w.toNat * 6 + z.toNat) y else dy)) (fun u : (Nat → Int) => xW cI cZ x p p1 n n1 n2 n3 a a1 a2 a3 a4 a5 a6 k k1 k2 k3 k4 k5 k6 t t1 t2 t3 t4 t5 t6 le te no li dg nb wy pa ra fa ft u er ti gr ah be pak rak fak ftk dyk erk tik grk ahk bek pat rat fat ftt dyt ert tit grt aht bet ik sp bo nr te9) 0 0 := by
  refine kx_WRi (cc := cX3_delay) (maxL := 5) (by decide) rfl (Nat.le_of_ble_eq_true rfl) ?_
  intro pr en s mi args below meth co Q A hx hb hml hown hts hK hin hA hP hD hS hret ls hl
  have hown : s.vm.findClass RX3 = some mi.cls := hown
  have iX3 : ∀ w ∈ wsX30, w ∈ wsX3_delay := by decide +kernel
  have iX0 : ∀ w ∈ wsX00, w ∈ wsX3_delay := by decide +kernel
  have hl : lv_has ls 5 [(0, .ref x), (1, .int (iI z)), (2, .int (iI w)), (3, .int (iI y))] := hl
  generalize hH0 : s.heap = H0 at hA hP hS hret ⊢
  obtain ⟨H, hH⟩ : ∃ H : Heap, H = H0 := ⟨_, rfl⟩
  obtain ⟨locs, hlocs⟩ : ∃ locs : List Loc, locs = [] := ⟨_, rfl⟩
  have hS : va_S A H0 H locs := by rw [hH, hlocs]; exact hS
  have hP : va_P D vwCl (xW cI cZ x p p1 n n1 n2 n3 a a1 a2 a3 a4 a5 a6 k k1 k2 k3 k4 k5 k6 t t1 t2 t3 t4 t5 t6 le te no li dg nb wy pa ra fa ft dy er ti gr ah be pak rak fak ftk dyk erk tik grk ahk bek pat rat fat ftt dyt ert tit grt aht bet ik sp bo nr te9) H := by rw [hH]; exact hP
  suffices hgo : W pr l en rm_X3_delay s mi args below meth co H locs 0 0 Q (F0 mi 0 ls []) by rw [hH, hlocs] at hgo; exact hgo
  clear hH hlocs
  refine lv_aload_n hx hb dX3_delay_0 rfl (lv_at hl 0 rfl) ?_
  refine va_get (D := D) (ci := 3) (v := .ref n) (C := RX3) (T := TX3) (N := 10) hx hb hts iX3 hown hK.1 hP 0 rfl rfl 1 (by decide) (hts (.fieldLink RX3 19 "CloseClocks" "shape" "LCloseClocks$Net;") (by decide +kernel)) (fun _ h9 => h9) rfl dX3_delay_1 ?_
  refine lv_iload_n hx hb dX3_delay_4 rfl (lv_at hl 1 rfl) ?_
  refine lv_iload_n hx hb dX3_delay_5 rfl (lv_at hl 2 rfl) ?_
  refine kx_cV (As := [.int (iI z), .int (iI w)]) (rest := []) (st1 := [.int (iI (if ((0 ≤ z ∧ z < no) ∧ (0 ≤ w ∧ w < no) ∧ wy ((z * 6 + w).toNat) = 1) then 1 else 0))]) (q0 := 0) (ci := 1) ⟨hx, hb, hml, hown, hts⟩ (c_X1_hasLink l D cI cZ n n1 n2 n3 no li dg nb wy z w (by first | assumption | omega) (by first | assumption | omega) (by first | assumption | omega) (by first | assumption | omega)) (cwV 2 hts gX3_delay_X1_hasLink rfl rfl rfl (by decide +kernel) ⟨Nat.le_of_ble_eq_true rfl, Nat.le_of_ble_eq_true rfl⟩) hK (hP.sub (ws' := ntW cI cZ n n1 n2 n3 no li dg nb wy) [3, 4, 5, 6] rfl) rfl rfl rfl hl.1 rfl (Nat.le_of_ble_eq_true rfl) dX3_delay_6 ⟨Nat.zero_le _, Nat.zero_le _⟩ rfl ?_
  refine kx_if_neB (tgt := 15) hx hb dX3_delay_9 (by decide) (fun h9 => ?_) (fun h9 => ?_)
  · skip
    replace h9 := xHL_iff.mpr h9
    have hb9 := xHL_iff.mp h9
    refine lv_iload_n hx hb dX3_delay_15 rfl (lv_at hl 3 rfl) ?_
    refine kx_if_lt (tgt := 24) hx hb (by omega) dX3_delay_16 (by decide) (fun h16 => ?_) (fun h16 => ?_)
    · skip
      refine kx_ldc (z := -100000003) hx hb hown (hts (.constant RX3 55 (-100000003)) (by decide +kernel)) dX3_delay_24 (by decide) ?_
      refine kx_top (b := (if ¬ xHL wy no z w = true then -100000002 else if ¬ (0 ≤ y ∧ y ≤ 3) then -100000003 else dy (z * 6 + w).toNat)) (by (repeat' split) <;> first | rfl | omega | contradiction | (exfalso; simp_all [xHL_iff]; done) | (exfalso; simp_all [xHL_iff]; omega)) ?_
      exact hret dy H locs _ _ (by (repeat' split) <;> first | rfl | omega | contradiction | (exfalso; simp_all [xHL_iff]; done) | (exfalso; simp_all [xHL_iff]; omega)) hP hD hS dX3_delay_26
    · skip
      refine lv_iload_n hx hb dX3_delay_19 rfl (lv_at hl 3 rfl) ?_
      refine kx_const (z := 3) hx hb dX3_delay_20 rfl ?_
      refine kx_icmp_le (tgt := 27) hx hb (by omega) (by omega) dX3_delay_21 (by decide) (fun h21 => ?_) (fun h21 => ?_)
      · skip
        refine lv_aload_n hx hb dX3_delay_27 rfl (lv_at hl 0 rfl) ?_
        refine va_get (D := D) (ci := 3) (v := .ref a) (C := RX3) (T := TX3) (N := 10) hx hb hts iX3 hown hK.1 hP 0 rfl rfl 2 (by decide) (hts (.fieldLink RX3 28 "CloseClocks" "now" "LCloseClocks$Clocks;") (by decide +kernel)) (fun _ h9 => h9) rfl dX3_delay_28 ?_
        refine va_getN (D := D) (ci := 0) (v := .ref a5) (C := RX0) (T := TX0) (N := 11) hx hb hts iX0 hown hK.1 hP 7 rfl rfl 5 (by decide) (va_Nw.use rfl (hK.2.1 (RX3, 114, RX0, "delays", "[I") (List.mem_of_getElem? (i := 10) rfl))) (fun _ h9 => h9) rfl dX3_delay_31 ?_
        refine lv_iload_n hx hb dX3_delay_34 rfl (lv_at hl 1 rfl) ?_
        refine lv_iload_n hx hb dX3_delay_35 rfl (lv_at hl 2 rfl) ?_
        refine kx_cS (As := [.int (iI z), .int (iI w)]) (rest := [.ref a5]) (st1 := [.int (iI ((z * 6) + w)), .ref a5]) ⟨hx, hb, hml, hown, hts⟩ (c_X3_cell l D cI cZ z w ) (va_cwS 2 hts gX3_delay_X3_cell rfl rfl rfl (by decide +kernel) ⟨Nat.le_of_ble_eq_true rfl, Nat.le_of_ble_eq_true rfl⟩) hK (hP.sub (ws' := []) [] rfl) rfl hl.1 rfl (Nat.le_of_ble_eq_true rfl) dX3_delay_36 ⟨Nat.zero_le _, Nat.zero_le _⟩ rfl ?_
        refine kx_iald (k := ((z * 6 + w).toNat)) hx hb hK hP 12 rfl (by omega) (by omega) (by decide) dX3_delay_39 ?_
        refine lv_istore (lv' := [(4, .int (iI (dy ((z * 6 + w).toNat)))), (0, .ref x), (1, .int (iI z)), (2, .int (iI w)), (3, .int (iI y))]) hx hb dX3_delay_40 hl (by decide) rfl (fun ls hl => ?_)
        refine lv_aload_n hx hb dX3_delay_42 rfl (lv_at hl 1 rfl) ?_
        refine va_get (D := D) (ci := 3) (v := .ref a) (C := RX3) (T := TX3) (N := 10) hx hb hts iX3 hown hK.1 hP 0 rfl rfl 2 (by decide) (hts (.fieldLink RX3 28 "CloseClocks" "now" "LCloseClocks$Clocks;") (by decide +kernel)) (fun _ h9 => h9) rfl dX3_delay_43 ?_
        refine lv_iload_n hx hb dX3_delay_46 rfl (lv_at hl 2 rfl) ?_
        refine kx_top (b := ((z.toNat : Nat) : Int)) (by omega) ?_
        refine lv_iload_n hx hb dX3_delay_47 rfl (lv_at hl 3 rfl) ?_
        refine kx_top (b := ((w.toNat : Nat) : Int)) (by omega) ?_
        refine lv_iload_n hx hb dX3_delay_48 rfl (lv_at hl 4 rfl) ?_
        refine kx_cVW (As := [.int (iI ((z.toNat : Nat) : Int)), .int (iI ((w.toNat : Nat) : Int)), .int (iI y)]) (rest := []) (wr := [(x, .inr (3, [.ref p, .ref n, .ref a, .ref k, .ref t, .int (iI ik), .int (iI sp), .int (iI bo), .int (iI nr), .int (iI te9)])), (p, .inr (2, [.ref p1, .int (iI le)])), (p1, aI cI 61 te), (k, .inr (0, [.ref n, .ref k1, .ref k2, .ref k3, .ref k4, .ref k5, .ref k6, .int (iI tik), .int (iI grk), .int (iI ahk), .int (iI bek)])), (k1, aI cI 24 pak), (k2, aI cI 6 rak), (k3, aI cI 6 fak), (k4, aI cI 6 ftk), (k5, aI cI 36 dyk), (k6, aI cI 36 erk), (t, .inr (0, [.ref n, .ref t1, .ref t2, .ref t3, .ref t4, .ref t5, .ref t6, .int (iI tit), .int (iI grt), .int (iI aht), .int (iI bet)])), (t1, aI cI 24 pat), (t2, aI cI 6 rat), (t3, aI cI 6 fat), (t4, aI cI 6 ftt), (t5, aI cI 36 dyt), (t6, aI cI 36 ert)]) (q0 := 0) (ci := 0) ⟨hx, hb, hml, hown, hts⟩ (c_X0_tellDelay l D cI cZ a a1 a2 a3 a4 a5 a6 n n1 n2 n3 pa ra fa ft dy er ti gr ah be no li dg nb wy (z.toNat) (w.toNat) y (by first | assumption | omega) (by first | assumption | omega) (by first | assumption | omega) (by first | assumption | omega) (by rw [show z.toNat * 6 + w.toNat = (z * 6 + w).toNat by omega]; exact hb9.2.2)) (cwV 3 hts gX3_delay_X0_tellDelay rfl rfl rfl (by decide +kernel) ⟨Nat.le_of_ble_eq_true rfl, Nat.le_of_ble_eq_true rfl⟩) hK hP hD hS hA [7, 8, 9, 10, 11, 12, 13, 3, 4, 5, 6] [0, 1, 2, 14, 15, 16, 17, 18, 19, 20, 21, 22, 23, 24, 25, 26, 27] rfl rfl (by decide) (by decide) (by decide) rfl rfl rfl hl.1 rfl (Nat.le_of_ble_eq_true rfl) dX3_delay_49 ⟨Nat.le_of_ble_eq_true rfl, Nat.le_of_ble_eq_true rfl⟩ (fun u H locs hq hP hD hS => ?_)
        have hP : va_P D vwCl (xW cI cZ x p p1 n n1 n2 n3 a a1 a2 a3 a4 a5 a6 k k1 k2 k3 k4 k5 k6 t t1 t2 t3 t4 t5 t6 le te no li dg nb wy pa ra fa ft (va_up (va_up dy ((z.toNat) * 6 + (w.toNat)) y) ((w.toNat) * 6 + (z.toNat)) y) er ti gr ah be pak rak fak ftk dyk erk tik grk ahk bek pat rat fat ftt dyt ert tit grt aht bet ik sp bo nr te9) H := hP.sub [0, 1, 2, 24, 25, 26, 27, 17, 18, 19, 20, 21, 22, 23, 3, 4, 5, 6, 7, 8, 9, 10, 11, 12, 13, 14, 15, 16] rfl
        have hD : va_D A (xW cI cZ x p p1 n n1 n2 n3 a a1 a2 a3 a4 a5 a6 k k1 k2 k3 k4 k5 k6 t t1 t2 t3 t4 t5 t6 le te no li dg nb wy pa ra fa ft (va_up (va_up dy ((z.toNat) * 6 + (w.toNat)) y) ((w.toNat) * 6 + (z.toNat)) y) er ti gr ah be pak rak fak ftk dyk erk tik grk ahk bek pat rat fat ftt dyt ert tit grt aht bet ik sp bo nr te9) := hD.sub [0, 1, 2, 24, 25, 26, 27, 17, 18, 19, 20, 21, 22, 23, 3, 4, 5, 6, 7, 8, 9, 10, 11, 12, 13, 14, 15, 16] (by decide) rfl
        refine W.eq (g2 := F0 mi 52 ls []) rfl ?_
        refine lv_iload hx hb dX3_delay_52 (lv_at hl 0 rfl) ?_
        refine kx_top (b := (if ¬ xHL wy no z w = true then -100000002 else if ¬ (0 ≤ y ∧ y ≤ 3) then -100000003 else dy (z * 6 + w).toNat)) (by (repeat' split) <;> first | rfl | omega | contradiction | (exfalso; simp_all [xHL_iff]; done) | (exfalso; simp_all [xHL_iff]; omega)) ?_
        exact hret (va_up (va_up dy ((z.toNat) * 6 + (w.toNat)) y) ((w.toNat) * 6 + (z.toNat)) y) H locs _ _ (by (repeat' split) <;> first | rfl | omega | contradiction | (exfalso; simp_all [xHL_iff]; done) | (exfalso; simp_all [xHL_iff]; omega)) hP hD hS dX3_delay_54
      · skip
        refine kx_ldc (z := -100000003) hx hb hown (hts (.constant RX3 55 (-100000003)) (by decide +kernel)) dX3_delay_24 (by decide) ?_
        refine kx_top (b := (if ¬ xHL wy no z w = true then -100000002 else if ¬ (0 ≤ y ∧ y ≤ 3) then -100000003 else dy (z * 6 + w).toNat)) (by (repeat' split) <;> first | rfl | omega | contradiction | (exfalso; simp_all [xHL_iff]; done) | (exfalso; simp_all [xHL_iff]; omega)) ?_
        exact hret dy H locs _ _ (by (repeat' split) <;> first | rfl | omega | contradiction | (exfalso; simp_all [xHL_iff]; done) | (exfalso; simp_all [xHL_iff]; omega)) hP hD hS dX3_delay_26
  · skip
    replace h9 := mt xHL_iff.mp h9
    refine kx_ldc (z := -100000002) hx hb hown (hts (.constant RX3 90 (-100000002)) (by decide +kernel)) dX3_delay_12 (by decide) ?_
    refine kx_top (b := (if ¬ xHL wy no z w = true then -100000002 else if ¬ (0 ≤ y ∧ y ≤ 3) then -100000003 else dy (z * 6 + w).toNat)) (by (repeat' split) <;> first | rfl | omega | contradiction | (exfalso; simp_all [xHL_iff]; done) | (exfalso; simp_all [xHL_iff]; omega)) ?_
    exact hret dy H locs _ _ (by (repeat' split) <;> first | rfl | omega | contradiction | (exfalso; simp_all [xHL_iff]; done) | (exfalso; simp_all [xHL_iff]; omega)) hP hD hS dX3_delay_14
