def rm_X2_isNewLink : Room := ({ frames := 2, cells := 0, slots := 0, locals := 42 } : Room)
set_option maxHeartbeats 4000000 in
set_option maxRecDepth 100000 in
theorem c_X2_isNewLink (l : Launch) (D : va_G) (cI cZ : ClassId) (p p1 : Nat) (le : Int) (te : Nat → Int) (q : Nat) (hle : 0 ≤ le ∧ le ≤ 61) (hte : ∀ k : Nat, k < 61 → 0 ≤ te k ∧ te k ≤ 126) (hq : (q : Int) < le) (hq3 : q % 4 = 3) : kRO l yX2_isNewLink wsX2_isNewLink rm_X2_isNewLink D cI cZ [.ref p, .int (iI (q : Int))] (pgW cI cZ p p1 le te) (some (.int (iI (if (tD te (q - 1) ≠ tD te q ∧ nwL te (tD te (q - 1)) (tD te q) ((q - 3) / 4) = true) then 1 else 0)))) := by
  refine kx_ROz (cc := cX2_isNewLink) (maxL := 7) (by decide) rfl (Nat.le_of_ble_eq_true rfl) ?_
  intro pr en s mi args below meth co Q hx hb hml hown hts hK hP hret ls hl
  have hown : s.vm.findClass RX2 = some mi.cls := hown
  have hl : lv_has ls 7 [(0, .ref p), (1, .int (iI (q : Int)))] := hl
  have htd : ∀ j : Nat, (j : Int) < le → pgL te le j - 48 = tD te j ∧ -1000 ≤ tD te j ∧ tD te j ≤ 1000 := fun j hj => ⟨pg_tD hj, by have := hte j (by omega); unfold tD; omega, by have := hte j (by omega); unfold tD; omega⟩
  have t1 := htd (q - 1) (by omega)
  have t2 := htd q (by omega)
  refine lv_aload_n hx hb dX2_isNewLink_0 rfl (lv_at hl 0 rfl) ?_
  refine lv_iload_n hx hb dX2_isNewLink_1 rfl (lv_at hl 1 rfl) ?_
  refine kx_const (z := 1) hx hb dX2_isNewLink_2 rfl ?_
  refine kx_isub hx hb dX2_isNewLink_3 ?_
  refine kx_top (b := ((q - 1 : Nat) : Int)) (by omega) ?_
  refine kx_cV (As := [.int (iI ((q - 1 : Nat) : Int))]) (rest := []) (st1 := [.int (iI ((pgL te le ((q - 1 : Nat) : Int)) - 48))]) (q0 := 0) (ci := 2) ⟨hx, hb, hml, hown, hts⟩ (c_X2_digitAt l D cI cZ p p1 le te ((q - 1 : Nat) : Int) (by first | assumption | omega) (by first | assumption | omega)) (cwV 1 hts gX2_isNewLink_X2_digitAt rfl rfl rfl (by decide +kernel) ⟨Nat.le_of_ble_eq_true rfl, Nat.le_of_ble_eq_true rfl⟩) hK hP rfl rfl rfl hl.1 rfl (Nat.le_of_ble_eq_true rfl) dX2_isNewLink_4 ⟨Nat.zero_le _, Nat.zero_le _⟩ rfl ?_
  refine kx_top (b := (tD te (q - 1))) (t1.1) ?_
  refine lv_istore_n (lv' := [(2, .int (iI (tD te (q - 1)))), (0, .ref p), (1, .int (iI (q : Int)))]) hx hb dX2_isNewLink_7 rfl hl (by decide) rfl (fun ls hl => ?_)
  refine lv_aload_n hx hb dX2_isNewLink_8 rfl (lv_at hl 1 rfl) ?_
  refine lv_iload_n hx hb dX2_isNewLink_9 rfl (lv_at hl 2 rfl) ?_
  refine kx_cV (As := [.int (iI (q : Int))]) (rest := []) (st1 := [.int (iI ((pgL te le (q : Int)) - 48))]) (q0 := 0) (ci := 2) ⟨hx, hb, hml, hown, hts⟩ (c_X2_digitAt l D cI cZ p p1 le te (q : Int) (by first | assumption | omega) (by first | assumption | omega)) (cwV 1 hts gX2_isNewLink_X2_digitAt rfl rfl rfl (by decide +kernel) ⟨Nat.le_of_ble_eq_true rfl, Nat.le_of_ble_eq_true rfl⟩) hK hP rfl rfl rfl hl.1 rfl (Nat.le_of_ble_eq_true rfl) dX2_isNewLink_10 ⟨Nat.zero_le _, Nat.zero_le _⟩ rfl ?_
  refine kx_top (b := (tD te q)) (t2.1) ?_
  refine lv_istore_n (lv' := [(3, .int (iI (tD te q))), (2, .int (iI (tD te (q - 1)))), (0, .ref p), (1, .int (iI (q : Int)))]) hx hb dX2_isNewLink_13 rfl hl (by decide) rfl (fun ls hl => ?_)
  refine lv_iload_n hx hb dX2_isNewLink_14 rfl (lv_at hl 1 rfl) ?_
  refine lv_iload_n hx hb dX2_isNewLink_15 rfl (lv_at hl 0 rfl) ?_
  refine kx_icmp_ne (tgt := 21) hx hb (by omega) (by omega) dX2_isNewLink_16 (by decide) (fun h16 => ?_) (fun h16 => ?_)
  · skip
    refine kx_const (z := 0) hx hb dX2_isNewLink_21 rfl ?_
    refine kx_cS (As := [.int (iI 0)]) (rest := []) (st1 := [.int (iI (2 + (4 * 0)))]) ⟨hx, hb, hml, hown, hts⟩ (c_X2_placeOfLink l D cI cZ 0 ) (va_cwS 1 hts gX2_isNewLink_X2_placeOfLink rfl rfl rfl (by decide +kernel) ⟨Nat.le_of_ble_eq_true rfl, Nat.le_of_ble_eq_true rfl⟩) hK (hP.sub (ws' := []) [] rfl) rfl hl.1 rfl (Nat.le_of_ble_eq_true rfl) dX2_isNewLink_22 ⟨Nat.zero_le _, Nat.zero_le _⟩ rfl ?_
    refine kx_top (b := ((2 + 4 * 0 : Nat) : Int)) (by omega) ?_
    refine lv_istore (lv' := [(4, .int (iI ((2 + 4 * 0 : Nat) : Int))), (3, .int (iI (tD te q))), (2, .int (iI (tD te (q - 1)))), (0, .ref p), (1, .int (iI (q : Int)))]) hx hb dX2_isNewLink_25 hl (by decide) rfl (fun ls hl => ?_)
    have L27 : ∀ (fu : Nat) (i : Nat), (4 * i ≤ q - 3) → (nwL te (tD te (q - 1)) (tD te q) i = true) → q - 4 * i < fu → ∀ ls : Array Slot, lv_has ls 7 [(0, .ref p), (1, .int (iI (q : Int))), (2, .int (iI (tD te (q - 1)))), (3, .int (iI (tD te q))), (4, .int (iI ((2 + 4 * i : Nat) : Int)))] → W pr l en rm_X2_isNewLink s mi args below meth co s.heap [] 0 0 Q (F0 mi 27 ls []) := by
      intro fu
      induction fu with
      | zero =>
        intro i hi hnw hfu
        exact absurd hfu (Nat.not_lt_zero _)
      | succ fu ih27 =>
        intro i hi hnw hfu ls hl
        refine lv_iload hx hb dX2_isNewLink_27 (lv_at hl 4 rfl) ?_
        refine lv_iload_n hx hb dX2_isNewLink_29 rfl (lv_at hl 1 rfl) ?_
        refine kx_const (z := 1) hx hb dX2_isNewLink_30 rfl ?_
        refine kx_isub hx hb dX2_isNewLink_31 ?_
        refine kx_icmp_ge (tgt := 85) hx hb (by omega) (by omega) dX2_isNewLink_32 (by decide) (fun h32 => ?_) (fun h32 => ?_)
        · skip
          refine kx_const (z := 1) hx hb dX2_isNewLink_85 rfl ?_
          exact hret 1 _ _ (Or.inl ⟨rfl, by refine ⟨h16, ?_⟩; rw [show (q - 3) / 4 = i by omega]; exact hnw⟩) dX2_isNewLink_86
        · skip
          have t3 := htd (2 + 4 * i) (by omega)
          have t4 := htd (3 + 4 * i) (by omega)
          refine lv_aload_n hx hb dX2_isNewLink_35 rfl (lv_at hl 0 rfl) ?_
          refine lv_iload hx hb dX2_isNewLink_36 (lv_at hl 4 rfl) ?_
          refine kx_cV (As := [.int (iI ((2 + 4 * i : Nat) : Int))]) (rest := []) (st1 := [.int (iI ((pgL te le ((2 + 4 * i : Nat) : Int)) - 48))]) (q0 := 0) (ci := 2) ⟨hx, hb, hml, hown, hts⟩ (c_X2_digitAt l D cI cZ p p1 le te ((2 + 4 * i : Nat) : Int) (by first | assumption | omega) (by first | assumption | omega)) (cwV 1 hts gX2_isNewLink_X2_digitAt rfl rfl rfl (by decide +kernel) ⟨Nat.le_of_ble_eq_true rfl, Nat.le_of_ble_eq_true rfl⟩) hK hP rfl rfl rfl hl.1 rfl (Nat.le_of_ble_eq_true rfl) dX2_isNewLink_38 ⟨Nat.zero_le _, Nat.zero_le _⟩ rfl ?_
          refine kx_top (b := (tD te (2 + 4 * i))) (t3.1) ?_
          refine lv_istore (lv' := [(5, .int (iI (tD te (2 + 4 * i)))), (0, .ref p), (1, .int (iI (q : Int))), (2, .int (iI (tD te (q - 1)))), (3, .int (iI (tD te q))), (4, .int (iI ((2 + 4 * i : Nat) : Int)))]) hx hb dX2_isNewLink_41 hl (by decide) rfl (fun ls hl => ?_)
          refine lv_aload_n hx hb dX2_isNewLink_43 rfl (lv_at hl 1 rfl) ?_
          refine lv_iload hx hb dX2_isNewLink_44 (lv_at hl 5 rfl) ?_
          refine kx_const (z := 1) hx hb dX2_isNewLink_46 rfl ?_
          refine kx_iadd hx hb dX2_isNewLink_47 ?_
          refine kx_top (b := ((3 + 4 * i : Nat) : Int)) (by omega) ?_
          refine kx_cV (As := [.int (iI ((3 + 4 * i : Nat) : Int))]) (rest := []) (st1 := [.int (iI ((pgL te le ((3 + 4 * i : Nat) : Int)) - 48))]) (q0 := 0) (ci := 2) ⟨hx, hb, hml, hown, hts⟩ (c_X2_digitAt l D cI cZ p p1 le te ((3 + 4 * i : Nat) : Int) (by first | assumption | omega) (by first | assumption | omega)) (cwV 1 hts gX2_isNewLink_X2_digitAt rfl rfl rfl (by decide +kernel) ⟨Nat.le_of_ble_eq_true rfl, Nat.le_of_ble_eq_true rfl⟩) hK hP rfl rfl rfl hl.1 rfl (Nat.le_of_ble_eq_true rfl) dX2_isNewLink_48 ⟨Nat.zero_le _, Nat.zero_le _⟩ rfl ?_
          refine kx_top (b := (tD te (3 + 4 * i))) (t4.1) ?_
          refine lv_istore (lv' := [(6, .int (iI (tD te (3 + 4 * i)))), (5, .int (iI (tD te (2 + 4 * i)))), (0, .ref p), (1, .int (iI (q : Int))), (2, .int (iI (tD te (q - 1)))), (3, .int (iI (tD te q))), (4, .int (iI ((2 + 4 * i : Nat) : Int)))]) hx hb dX2_isNewLink_51 hl (by decide) rfl (fun ls hl => ?_)
          refine lv_iload hx hb dX2_isNewLink_53 (lv_at hl 1 rfl) ?_
          refine lv_iload_n hx hb dX2_isNewLink_55 rfl (lv_at hl 4 rfl) ?_
          refine kx_icmp_ne (tgt := 65) hx hb (by omega) (by omega) dX2_isNewLink_56 (by decide) (fun h56 => ?_) (fun h56 => ?_)
          · skip
            refine lv_iload hx hb dX2_isNewLink_65 (lv_at hl 1 rfl) ?_
            refine lv_iload_n hx hb dX2_isNewLink_67 rfl (lv_at hl 5 rfl) ?_
            refine kx_icmp_ne (tgt := 79) hx hb (by omega) (by omega) dX2_isNewLink_68 (by decide) (fun h68 => ?_) (fun h68 => ?_)
            · skip
              refine kx_iinc (z := ((2 + 4 * i + 4 : Nat) : Int)) (lv' := [(4, .int (iI ((2 + 4 * i + 4 : Nat) : Int))), (6, .int (iI (tD te (3 + 4 * i)))), (5, .int (iI (tD te (2 + 4 * i)))), (0, .ref p), (1, .int (iI (q : Int))), (2, .int (iI (tD te (q - 1)))), (3, .int (iI (tD te q)))]) hx hb dX2_isNewLink_79 hl (k0 := 6) rfl (by omega) (by decide) rfl (fun ls hl => ?_)
              refine lv_goto (tgt := 27) hx hb dX2_isNewLink_82 (by decide) ?_
              exact ih27 (i + 1) (by first | assumption | omega) (by rw [nwL, hnw, Bool.true_and, smL, decide_eq_false (by omega)]; rfl) (by omega) ls (lv_sub hl [3, 4, 5, 6, 0] rfl)
            · skip
              refine lv_iload hx hb dX2_isNewLink_71 (lv_at hl 0 rfl) ?_
              refine lv_iload_n hx hb dX2_isNewLink_73 rfl (lv_at hl 4 rfl) ?_
              refine kx_icmp_ne (tgt := 79) hx hb (by omega) (by omega) dX2_isNewLink_74 (by decide) (fun h74 => ?_) (fun h74 => ?_)
              · skip
                refine kx_iinc (z := ((2 + 4 * i + 4 : Nat) : Int)) (lv' := [(4, .int (iI ((2 + 4 * i + 4 : Nat) : Int))), (6, .int (iI (tD te (3 + 4 * i)))), (5, .int (iI (tD te (2 + 4 * i)))), (0, .ref p), (1, .int (iI (q : Int))), (2, .int (iI (tD te (q - 1)))), (3, .int (iI (tD te q)))]) hx hb dX2_isNewLink_79 hl (k0 := 6) rfl (by omega) (by decide) rfl (fun ls hl => ?_)
                refine lv_goto (tgt := 27) hx hb dX2_isNewLink_82 (by decide) ?_
                exact ih27 (i + 1) (by first | assumption | omega) (by rw [nwL, hnw, Bool.true_and, smL, decide_eq_false (by omega)]; rfl) (by omega) ls (lv_sub hl [3, 4, 5, 6, 0] rfl)
              · skip
                refine kx_const (z := 0) hx hb dX2_isNewLink_77 rfl ?_
                exact hret 0 _ _ (Or.inr ⟨rfl, by rintro ⟨q1, q2⟩; exact absurd (nwL_le (i := i) q2 (by omega)) (by rw [smL, decide_eq_true (by omega)]; decide)⟩) dX2_isNewLink_78
          · skip
            refine lv_iload hx hb dX2_isNewLink_59 (lv_at hl 0 rfl) ?_
            refine lv_iload_n hx hb dX2_isNewLink_61 rfl (lv_at hl 5 rfl) ?_
            refine kx_icmp_eq (tgt := 77) hx hb (by omega) (by omega) dX2_isNewLink_62 (by decide) (fun h62 => ?_) (fun h62 => ?_)
            · skip
              refine kx_const (z := 0) hx hb dX2_isNewLink_77 rfl ?_
              exact hret 0 _ _ (Or.inr ⟨rfl, by rintro ⟨q1, q2⟩; exact absurd (nwL_le (i := i) q2 (by omega)) (by rw [smL, decide_eq_true (by omega)]; decide)⟩) dX2_isNewLink_78
            · skip
              refine lv_iload hx hb dX2_isNewLink_65 (lv_at hl 1 rfl) ?_
              refine lv_iload_n hx hb dX2_isNewLink_67 rfl (lv_at hl 5 rfl) ?_
              refine kx_icmp_ne (tgt := 79) hx hb (by omega) (by omega) dX2_isNewLink_68 (by decide) (fun h68 => ?_) (fun h68 => ?_)
              · skip
                refine kx_iinc (z := ((2 + 4 * i + 4 : Nat) : Int)) (lv' := [(4, .int (iI ((2 + 4 * i + 4 : Nat) : Int))), (6, .int (iI (tD te (3 + 4 * i)))), (5, .int (iI (tD te (2 + 4 * i)))), (0, .ref p), (1, .int (iI (q : Int))), (2, .int (iI (tD te (q - 1)))), (3, .int (iI (tD te q)))]) hx hb dX2_isNewLink_79 hl (k0 := 6) rfl (by omega) (by decide) rfl (fun ls hl => ?_)
                refine lv_goto (tgt := 27) hx hb dX2_isNewLink_82 (by decide) ?_
                exact ih27 (i + 1) (by first | assumption | omega) (by rw [nwL, hnw, Bool.true_and, smL, decide_eq_false (by omega)]; rfl) (by omega) ls (lv_sub hl [3, 4, 5, 6, 0] rfl)
              · skip
                refine lv_iload hx hb dX2_isNewLink_71 (lv_at hl 0 rfl) ?_
                refine lv_iload_n hx hb dX2_isNewLink_73 rfl (lv_at hl 4 rfl) ?_
                refine kx_icmp_ne (tgt := 79) hx hb (by omega) (by omega) dX2_isNewLink_74 (by decide) (fun h74 => ?_) (fun h74 => ?_)
                · skip
                  refine kx_iinc (z := ((2 + 4 * i + 4 : Nat) : Int)) (lv' := [(4, .int (iI ((2 + 4 * i + 4 : Nat) : Int))), (6, .int (iI (tD te (3 + 4 * i)))), (5, .int (iI (tD te (2 + 4 * i)))), (0, .ref p), (1, .int (iI (q : Int))), (2, .int (iI (tD te (q - 1)))), (3, .int (iI (tD te q)))]) hx hb dX2_isNewLink_79 hl (k0 := 6) rfl (by omega) (by decide) rfl (fun ls hl => ?_)
                  refine lv_goto (tgt := 27) hx hb dX2_isNewLink_82 (by decide) ?_
                  exact ih27 (i + 1) (by first | assumption | omega) (by rw [nwL, hnw, Bool.true_and, smL, decide_eq_false (by omega)]; rfl) (by omega) ls (lv_sub hl [3, 4, 5, 6, 0] rfl)
                · skip
                  refine kx_const (z := 0) hx hb dX2_isNewLink_77 rfl ?_
                  exact hret 0 _ _ (Or.inr ⟨rfl, by rintro ⟨q1, q2⟩; exact absurd (nwL_le (i := i) q2 (by omega)) (by rw [smL, decide_eq_true (by omega)]; decide)⟩) dX2_isNewLink_78
    exact L27 (q - 4 * 0 + 1) 0 (by first | assumption | omega) (rfl) (Nat.lt_succ_self _) ls (lv_sub hl [3, 4, 2, 1, 0] rfl)
  · skip
    refine kx_const (z := 0) hx hb dX2_isNewLink_19 rfl ?_
    exact hret 0 _ _ (Or.inr ⟨rfl, by intro q9; exact q9.1 h16⟩) dX2_isNewLink_20
def rm_X2_fitsAt : Room := ({ frames := 3, cells := 0, slots := 0, locals := 68 } : Room)
set_option maxHeartbeats 4000000 in
set_option maxRecDepth 100000 in
theorem c_X2_fitsAt (l : Launch) (D : va_G) (cI cZ : ClassId) (p p1 : Nat) (le : Int) (te : Nat → Int) (q : Nat) (hle : 0 ≤ le ∧ le ≤ 61) (hte : ∀ k : Nat, k < 61 → 0 ≤ te k ∧ te k ≤ 126) (hq : (q : Int) < le) : kRO l yX2_fitsAt wsX2_fitsAt rm_X2_fitsAt D cI cZ [.ref p, .int (iI (q : Int))] (pgW cI cZ p p1 le te) (some (.int (iI (if fit te q = true then 1 else 0)))) := by
  refine kx_ROz (cc := cX2_fitsAt) (maxL := 3) (by decide) rfl (Nat.le_of_ble_eq_true rfl) ?_
  intro pr en s mi args below meth co Q hx hb hml hown hts hK hP hret ls hl
  have hown : s.vm.findClass RX2 = some mi.cls := hown
  have hl : lv_has ls 3 [(0, .ref p), (1, .int (iI (q : Int)))] := hl
  have htd : ∀ j : Nat, (j : Int) < le → pgL te le j - 48 = tD te j ∧ -1000 ≤ tD te j ∧ tD te j ≤ 1000 := fun j hj => ⟨pg_tD hj, by have := hte j (by omega); unfold tD; omega, by have := hte j (by omega); unfold tD; omega⟩
  have t2 := htd q (by omega)
  have t0 : pgL te le 0 - 48 = tD te 0 ∧ -1000 ≤ tD te 0 ∧ tD te 0 ≤ 1000 := htd 0 (by omega)
  have hpl9 : pgL te le (q : Int) = te q := by rw [pgL_in ⟨by omega, hq⟩]; congr 1
  have hrq := hte q (by omega)
  refine lv_aload_n hx hb dX2_fitsAt_0 rfl (lv_at hl 0 rfl) ?_
  refine lv_iload_n hx hb dX2_fitsAt_1 rfl (lv_at hl 1 rfl) ?_
  refine kx_cV (As := [.int (iI (q : Int))]) (rest := []) (st1 := [.int (iI ((pgL te le (q : Int)) - 48))]) (q0 := 0) (ci := 2) ⟨hx, hb, hml, hown, hts⟩ (c_X2_digitAt l D cI cZ p p1 le te (q : Int) (by first | assumption | omega) (by first | assumption | omega)) (cwV 1 hts gX2_fitsAt_X2_digitAt rfl rfl rfl (by decide +kernel) ⟨Nat.le_of_ble_eq_true rfl, Nat.le_of_ble_eq_true rfl⟩) hK hP rfl rfl rfl hl.1 rfl (Nat.le_of_ble_eq_true rfl) dX2_fitsAt_2 ⟨Nat.zero_le _, Nat.zero_le _⟩ rfl ?_
  refine kx_top (b := (tD te q)) (t2.1) ?_
  refine lv_istore_n (lv' := [(2, .int (iI (tD te q))), (0, .ref p), (1, .int (iI (q : Int)))]) hx hb dX2_fitsAt_5 rfl hl (by decide) rfl (fun ls hl => ?_)
  refine lv_iload_n hx hb dX2_fitsAt_6 rfl (lv_at hl 2 rfl) ?_
  refine kx_if_ne (tgt := 27) hx hb (by omega) dX2_fitsAt_7 (by decide) (fun h7 => ?_) (fun h7 => ?_)
  · skip
    refine lv_iload_n hx hb dX2_fitsAt_27 rfl (lv_at hl 2 rfl) ?_
    refine kx_const (z := 4) hx hb dX2_fitsAt_28 rfl ?_
    refine kx_irem hx hb (by omega) (by omega) dX2_fitsAt_29 ?_
    rcases (show (((q : Int) % 4) < 1 ∨ 3 < ((q : Int) % 4)) ∨ ((q : Int) % 4) = 1 ∨ ((q : Int) % 4) = 2 ∨ ((q : Int) % 4) = 3 by omega) with hsw | hsw | hsw | hsw
    · skip
      refine lv_tableOut (tgt := 100) hx hb dX2_fitsAt_30 (by rw [iI_toInt (by omega)]; omega) (by decide) ?_
      refine lv_iload_n hx hb dX2_fitsAt_100 rfl (lv_at hl 0 rfl) ?_
      refine kx_if_lt (tgt := 113) hx hb (by omega) dX2_fitsAt_101 (by decide) (fun h101 => ?_) (fun h101 => ?_)
      · skip
        refine kx_const (z := 0) hx hb dX2_fitsAt_113 rfl ?_
        exact hret 0 _ _ (Or.inr ⟨rfl, by rw [fit4 (by omega) (by omega)]; omega⟩) dX2_fitsAt_114
      · skip
        refine lv_iload_n hx hb dX2_fitsAt_104 rfl (lv_at hl 0 rfl) ?_
        refine kx_const (z := 3) hx hb dX2_fitsAt_105 rfl ?_
        refine kx_icmp_gt (tgt := 113) hx hb (by omega) (by omega) dX2_fitsAt_106 (by decide) (fun h106 => ?_) (fun h106 => ?_)
        · skip
          refine kx_const (z := 0) hx hb dX2_fitsAt_113 rfl ?_
          exact hret 0 _ _ (Or.inr ⟨rfl, by rw [fit4 (by omega) (by omega)]; omega⟩) dX2_fitsAt_114
        · skip
          refine kx_const (z := 1) hx hb dX2_fitsAt_109 rfl ?_
          refine lv_goto (tgt := 114) hx hb dX2_fitsAt_110 (by decide) ?_
          exact hret 1 _ _ (Or.inl ⟨rfl, by exact (fit4 (by omega) (by omega)).mpr (by omega)⟩) dX2_fitsAt_114
    · skip
      refine lv_tableIn (tgt := 56) hx hb dX2_fitsAt_30 (by rw [iI_toInt (by omega)]; omega) (by rw [iI_toInt (by omega)]; omega) (by rw [iI_toInt (by omega), hsw]; rfl) (by decide) ?_
      refine lv_aload_n hx hb dX2_fitsAt_56 rfl (lv_at hl 1 rfl) ?_
      refine lv_iload_n hx hb dX2_fitsAt_57 rfl (lv_at hl 2 rfl) ?_
      refine kx_cV (As := [.int (iI (q : Int))]) (rest := []) (st1 := [.int (iI (pgL te le (q : Int)))]) (q0 := 0) (ci := 2) ⟨hx, hb, hml, hown, hts⟩ (c_X2_letterAt l D cI cZ p p1 le te (q : Int) (by first | assumption | omega) (by first | assumption | omega)) (cwV 1 hts gX2_fitsAt_X2_letterAt rfl rfl rfl (by decide +kernel) ⟨Nat.le_of_ble_eq_true rfl, Nat.le_of_ble_eq_true rfl⟩) hK hP rfl rfl rfl hl.1 rfl (Nat.le_of_ble_eq_true rfl) dX2_fitsAt_58 ⟨Nat.zero_le _, Nat.zero_le _⟩ rfl ?_
      refine kx_top (b := (te q)) (hpl9) ?_
      refine kx_bipush (z := 44) hx hb dX2_fitsAt_61 (by decide) ?_
      refine kx_icmp_ne (tgt := 70) hx hb (by omega) (by omega) dX2_fitsAt_63 (by decide) (fun h63 => ?_) (fun h63 => ?_)
      · skip
        refine kx_const (z := 0) hx hb dX2_fitsAt_70 rfl ?_
        exact hret 0 _ _ (Or.inr ⟨rfl, by rw [fit1 (by omega)]; omega⟩) dX2_fitsAt_71
      · skip
        refine kx_const (z := 1) hx hb dX2_fitsAt_66 rfl ?_
        refine lv_goto (tgt := 71) hx hb dX2_fitsAt_67 (by decide) ?_
        exact hret 1 _ _ (Or.inl ⟨rfl, by exact (fit1 (by omega)).mpr (by omega)⟩) dX2_fitsAt_71
    · skip
      refine lv_tableIn (tgt := 72) hx hb dX2_fitsAt_30 (by rw [iI_toInt (by omega)]; omega) (by rw [iI_toInt (by omega)]; omega) (by rw [iI_toInt (by omega), hsw]; rfl) (by decide) ?_
      refine lv_aload_n hx hb dX2_fitsAt_72 rfl (lv_at hl 1 rfl) ?_
      refine lv_iload_n hx hb dX2_fitsAt_73 rfl (lv_at hl 0 rfl) ?_
      refine kx_cV (As := [.int (iI (tD te q))]) (rest := []) (st1 := [.int (iI (if (0 ≤ (tD te q) ∧ (tD te q) < (pgL te le 0) - 48) then 1 else 0))]) (q0 := 0) (ci := 2) ⟨hx, hb, hml, hown, hts⟩ (c_X2_isNode l D cI cZ p p1 le te (tD te q) (by first | assumption | omega) (by first | assumption | omega) (by first | assumption | omega)) (cwV 1 hts gX2_fitsAt_X2_isNode rfl rfl rfl (by decide +kernel) ⟨Nat.le_of_ble_eq_true rfl, Nat.le_of_ble_eq_true rfl⟩) hK hP rfl rfl rfl hl.1 rfl (Nat.le_of_ble_eq_true rfl) dX2_fitsAt_74 ⟨Nat.zero_le _, Nat.zero_le _⟩ rfl ?_
      by_cases hz9 : (0 ≤ (tD te q) ∧ (tD te q) < (pgL te le 0) - 48)
      · rw [if_pos hz9]; exact hret 1 _ _ (Or.inl ⟨rfl, by refine (fit2 (by omega)).mpr ?_; have := t0.1; omega⟩) dX2_fitsAt_77
      · rw [if_neg hz9]; exact hret 0 _ _ (Or.inr ⟨rfl, by rw [fit2 (by omega)]; have := t0.1; omega⟩) dX2_fitsAt_77
    · skip
      refine lv_tableIn (tgt := 78) hx hb dX2_fitsAt_30 (by rw [iI_toInt (by omega)]; omega) (by rw [iI_toInt (by omega)]; omega) (by rw [iI_toInt (by omega), hsw]; rfl) (by decide) ?_
      refine lv_aload_n hx hb dX2_fitsAt_78 rfl (lv_at hl 1 rfl) ?_
      refine lv_iload_n hx hb dX2_fitsAt_79 rfl (lv_at hl 0 rfl) ?_
      refine kx_cV (As := [.int (iI (tD te q))]) (rest := []) (st1 := [.int (iI (if (0 ≤ (tD te q) ∧ (tD te q) < (pgL te le 0) - 48) then 1 else 0))]) (q0 := 0) (ci := 2) ⟨hx, hb, hml, hown, hts⟩ (c_X2_isNode l D cI cZ p p1 le te (tD te q) (by first | assumption | omega) (by first | assumption | omega) (by first | assumption | omega)) (cwV 1 hts gX2_fitsAt_X2_isNode rfl rfl rfl (by decide +kernel) ⟨Nat.le_of_ble_eq_true rfl, Nat.le_of_ble_eq_true rfl⟩) hK hP rfl rfl rfl hl.1 rfl (Nat.le_of_ble_eq_true rfl) dX2_fitsAt_80 ⟨Nat.zero_le _, Nat.zero_le _⟩ rfl ?_
      refine kx_if_eqB (tgt := 98) hx hb dX2_fitsAt_83 (by decide) (fun h83 => ?_) (fun h83 => ?_)
      · skip
        refine kx_const (z := 0) hx hb dX2_fitsAt_98 rfl ?_
        exact hret 0 _ _ (Or.inr ⟨rfl, by rw [fit3 (by omega)]; rintro ⟨⟨q1, q2⟩, q3⟩; have := t0.1; first | (exact h91 ⟨q2, q3⟩) | omega⟩) dX2_fitsAt_99
      · skip
        refine lv_aload_n hx hb dX2_fitsAt_86 rfl (lv_at hl 1 rfl) ?_
        refine lv_iload_n hx hb dX2_fitsAt_87 rfl (lv_at hl 2 rfl) ?_
        refine kx_cV (As := [.int (iI (q : Int))]) (rest := []) (st1 := [.int (iI (if ((tD te (q - 1) ≠ tD te q ∧ nwL te (tD te (q - 1)) (tD te q) ((q - 3) / 4) = true)) then 1 else 0))]) (q0 := 0) (ci := 2) ⟨hx, hb, hml, hown, hts⟩ (c_X2_isNewLink l D cI cZ p p1 le te q (by first | assumption | omega) (by first | assumption | omega) (by first | assumption | omega) (by first | assumption | omega)) (cwV 1 hts gX2_fitsAt_X2_isNewLink rfl rfl rfl (by decide +kernel) ⟨Nat.le_of_ble_eq_true rfl, Nat.le_of_ble_eq_true rfl⟩) hK hP rfl rfl rfl hl.1 rfl (Nat.le_of_ble_eq_true rfl) dX2_fitsAt_88 ⟨Nat.zero_le _, Nat.zero_le _⟩ rfl ?_
        refine kx_if_eqB (tgt := 98) hx hb dX2_fitsAt_91 (by decide) (fun h91 => ?_) (fun h91 => ?_)
        · skip
          refine kx_const (z := 0) hx hb dX2_fitsAt_98 rfl ?_
          exact hret 0 _ _ (Or.inr ⟨rfl, by rw [fit3 (by omega)]; rintro ⟨⟨q1, q2⟩, q3⟩; have := t0.1; first | (exact h91 ⟨q2, q3⟩) | omega⟩) dX2_fitsAt_99
        · skip
          refine kx_const (z := 1) hx hb dX2_fitsAt_94 rfl ?_
          refine lv_goto (tgt := 99) hx hb dX2_fitsAt_95 (by decide) ?_
          exact hret 1 _ _ (Or.inl ⟨rfl, by refine (fit3 (by omega)).mpr ⟨⟨?_, h91.1⟩, h91.2⟩; have := t0.1; omega⟩) dX2_fitsAt_99
  · skip
    have hq0 : q = 0 := by omega
    subst hq0
    refine lv_iload_n hx hb dX2_fitsAt_10 rfl (lv_at hl 0 rfl) ?_
    refine kx_const (z := 2) hx hb dX2_fitsAt_11 rfl ?_
    refine kx_icmp_lt (tgt := 25) hx hb (by omega) (by omega) dX2_fitsAt_12 (by decide) (fun h12 => ?_) (fun h12 => ?_)
    · skip
      refine kx_const (z := 0) hx hb dX2_fitsAt_25 rfl ?_
      exact hret 0 _ _ (Or.inr ⟨rfl, by rw [fit0]; omega⟩) dX2_fitsAt_26
    · skip
      refine lv_iload_n hx hb dX2_fitsAt_15 rfl (lv_at hl 0 rfl) ?_
      refine kx_bipush (z := 6) hx hb dX2_fitsAt_16 (by decide) ?_
      refine kx_icmp_gt (tgt := 25) hx hb (by omega) (by omega) dX2_fitsAt_18 (by decide) (fun h18 => ?_) (fun h18 => ?_)
      · skip
        refine kx_const (z := 0) hx hb dX2_fitsAt_25 rfl ?_
        exact hret 0 _ _ (Or.inr ⟨rfl, by rw [fit0]; omega⟩) dX2_fitsAt_26
      · skip
        refine kx_const (z := 1) hx hb dX2_fitsAt_21 rfl ?_
        refine lv_goto (tgt := 26) hx hb dX2_fitsAt_22 (by decide) ?_
        exact hret 1 _ _ (Or.inl ⟨rfl, by exact fit0.mpr (by omega)⟩) dX2_fitsAt_26
def rm_X2_firstFault : Room := ({ frames := 4, cells := 0, slots := 0, locals := 90 } : Room)
set_option maxHeartbeats 4000000 in
set_option maxRecDepth 100000 in
theorem c_X2_firstFault (l : Launch) (D : va_G) (cI cZ : ClassId) (p p1 : Nat) (le : Int) (te : Nat → Int)  (hle : 0 ≤ le ∧ le ≤ 61) (hte : ∀ k : Nat, k < 61 → 0 ≤ te k ∧ te k ≤ 126) : kRO l yX2_firstFault wsX2_firstFault rm_X2_firstFault D cI cZ [.ref p] (pgW cI cZ p p1 le te) (some (.int (iI (fau te le.toNat : Int)))) := by
  refine kx_ROi (cc := cX2_firstFault) (maxL := 2) (by decide) rfl (Nat.le_of_ble_eq_true rfl) ?_
  intro pr en s mi args below meth co Q hx hb hml hown hts hK hP hret ls hl
  have hown : s.vm.findClass RX2 = some mi.cls := hown
  have iX2 : ∀ w ∈ wsX20, w ∈ wsX2_firstFault := by decide +kernel
  have hl : lv_has ls 2 [(0, .ref p)] := hl
  refine kx_const (z := 0) hx hb dX2_firstFault_0 rfl ?_
  refine lv_istore_n (lv' := [(1, .int (iI 0)), (0, .ref p)]) hx hb dX2_firstFault_1 rfl hl (by decide) rfl (fun ls hl => ?_)
  have L2 : ∀ (fu : Nat) (k : Nat), ((k : Int) ≤ le) → (xFF (fit te) (le.toNat - k) k = fau te le.toNat) → le.toNat - k < fu → ∀ ls : Array Slot, lv_has ls 2 [(0, .ref p), (1, .int (iI (k : Int)))] → W pr l en rm_X2_firstFault s mi args below meth co s.heap [] 0 0 Q (F0 mi 2 ls []) := by
    intro fu
    induction fu with
    | zero =>
      intro k hk hff hfu
      exact absurd hfu (Nat.not_lt_zero _)
    | succ fu ih2 =>
      intro k hk hff hfu ls hl
      refine lv_iload_n hx hb dX2_firstFault_2 rfl (lv_at hl 1 rfl) ?_
      refine lv_aload_n hx hb dX2_firstFault_3 rfl (lv_at hl 0 rfl) ?_
      refine va_get (D := D) (ci := 2) (v := .int (iI le)) (C := RX2) (T := TX2) (N := 2) hx hb hts iX2 hown hK.1 hP 0 rfl rfl 1 (by decide) (hts (.fieldLink RX2 15 "CloseClocks$Page" "length" "I") (by decide +kernel)) (fun _ h9 => h9) rfl dX2_firstFault_4 ?_
      refine kx_icmp_ge (tgt := 26) hx hb (by omega) (by omega) dX2_firstFault_7 (by decide) (fun h7 => ?_) (fun h7 => ?_)
      · skip
        refine lv_aload_n hx hb dX2_firstFault_26 rfl (lv_at hl 0 rfl) ?_
        refine va_get (D := D) (ci := 2) (v := .int (iI le)) (C := RX2) (T := TX2) (N := 2) hx hb hts iX2 hown hK.1 hP 0 rfl rfl 1 (by decide) (hts (.fieldLink RX2 15 "CloseClocks$Page" "length" "I") (by decide +kernel)) (fun _ h9 => h9) rfl dX2_firstFault_27 ?_
        refine kx_top (b := (fau te le.toNat : Int)) (by rw [← hff, show le.toNat - k = 0 by omega, xFF]; omega) ?_
        exact hret _ _ dX2_firstFault_30
      · skip
        refine lv_aload_n hx hb dX2_firstFault_10 rfl (lv_at hl 0 rfl) ?_
        refine lv_iload_n hx hb dX2_firstFault_11 rfl (lv_at hl 1 rfl) ?_
        refine kx_cV (As := [.int (iI (k : Int))]) (rest := []) (st1 := [.int (iI (if (fit te k = true) then 1 else 0))]) (q0 := 0) (ci := 2) ⟨hx, hb, hml, hown, hts⟩ (c_X2_fitsAt l D cI cZ p p1 le te k (by first | assumption | omega) (by first | assumption | omega) (by first | assumption | omega)) (cwV 1 hts gX2_firstFault_X2_fitsAt rfl rfl rfl (by decide +kernel) ⟨Nat.le_of_ble_eq_true rfl, Nat.le_of_ble_eq_true rfl⟩) hK hP rfl rfl rfl hl.1 rfl (Nat.le_of_ble_eq_true rfl) dX2_firstFault_12 ⟨Nat.zero_le _, Nat.zero_le _⟩ rfl ?_
        refine kx_if_neB (tgt := 20) hx hb dX2_firstFault_15 (by decide) (fun h15 => ?_) (fun h15 => ?_)
        · skip
          refine kx_iinc (z := ((k + 1 : Nat) : Int)) (lv' := [(1, .int (iI ((k + 1 : Nat) : Int))), (0, .ref p)]) hx hb dX2_firstFault_20 hl (k0 := 1) rfl (by omega) (by decide) rfl (fun ls hl => ?_)
          refine lv_goto (tgt := 2) hx hb dX2_firstFault_23 (by decide) ?_
          exact ih2 (k + 1) (by first | assumption | omega) (by rw [← hff, show le.toNat - k = (le.toNat - (k + 1)) + 1 by omega, xFF, if_pos h15]) (by omega) ls (lv_sub hl [1, 0] rfl)
        · skip
          refine lv_iload_n hx hb dX2_firstFault_18 rfl (lv_at hl 1 rfl) ?_
          refine kx_top (b := (fau te le.toNat : Int)) (by rw [← hff, show le.toNat - k = (le.toNat - (k + 1)) + 1 by omega, xFF, if_neg h15]) ?_
          exact hret _ _ dX2_firstFault_19
  exact L2 (le.toNat - 0 + 1) 0 (by first | assumption | omega) (rfl) (Nat.lt_succ_self _) ls (lv_sub hl [1, 0] rfl)
def rm_X2_isNet : Room := ({ frames := 5, cells := 0, slots := 0, locals := 111 } : Room)
set_option maxHeartbeats 4000000 in
set_option maxRecDepth 100000 in
theorem c_X2_isNet (l : Launch) (D : va_G) (cI cZ : ClassId) (p p1 : Nat) (le : Int) (te : Nat → Int)  (hle : 0 ≤ le ∧ le ≤ 61) (hte : ∀ k : Nat, k < 61 → 0 ≤ te k ∧ te k ≤ 126) : kRO l yX2_isNet wsX2_isNet rm_X2_isNet D cI cZ [.ref p] (pgW cI cZ p p1 le te) (some (.int (iI (if (fau te le.toNat = le.toNat ∧ 4 < le ∧ le % 4 = 1) then 1 else 0)))) := by
  refine kx_ROz (cc := cX2_isNet) (maxL := 1) (by decide) rfl (Nat.le_of_ble_eq_true rfl) ?_
  intro pr en s mi args below meth co Q hx hb hml hown hts hK hP hret ls hl
  have hown : s.vm.findClass RX2 = some mi.cls := hown
  have iX2 : ∀ w ∈ wsX20, w ∈ wsX2_isNet := by decide +kernel
  have hl : lv_has ls 1 [(0, .ref p)] := hl
  have hxf := xFF_spec (fit te) le.toNat 0
  have hfa9 : fau te le.toNat ≤ le.toNat := by have := hxf.2.1; unfold fau; omega
  refine lv_aload_n hx hb dX2_isNet_0 rfl (lv_at hl 0 rfl) ?_
  refine va_get (D := D) (ci := 2) (v := .int (iI le)) (C := RX2) (T := TX2) (N := 2) hx hb hts iX2 hown hK.1 hP 0 rfl rfl 1 (by decide) (hts (.fieldLink RX2 15 "CloseClocks$Page" "length" "I") (by decide +kernel)) (fun _ h9 => h9) rfl dX2_isNet_1 ?_
  refine kx_const (z := 4) hx hb dX2_isNet_4 rfl ?_
  refine kx_icmp_le (tgt := 33) hx hb (by omega) (by omega) dX2_isNet_5 (by decide) (fun h5 => ?_) (fun h5 => ?_)
  · skip
    refine kx_const (z := 0) hx hb dX2_isNet_33 rfl ?_
    exact hret 0 _ _ (Or.inr ⟨rfl, by first | omega | simp_all⟩) dX2_isNet_34
  · skip
    refine lv_aload_n hx hb dX2_isNet_8 rfl (lv_at hl 0 rfl) ?_
    refine va_get (D := D) (ci := 2) (v := .int (iI le)) (C := RX2) (T := TX2) (N := 2) hx hb hts iX2 hown hK.1 hP 0 rfl rfl 1 (by decide) (hts (.fieldLink RX2 15 "CloseClocks$Page" "length" "I") (by decide +kernel)) (fun _ h9 => h9) rfl dX2_isNet_9 ?_
    refine kx_const (z := 4) hx hb dX2_isNet_12 rfl ?_
    refine kx_irem hx hb (by omega) (by omega) dX2_isNet_13 ?_
    refine kx_const (z := 1) hx hb dX2_isNet_14 rfl ?_
    refine kx_icmp_ne (tgt := 33) hx hb (by omega) (by omega) dX2_isNet_15 (by decide) (fun h15 => ?_) (fun h15 => ?_)
    · skip
      refine kx_const (z := 0) hx hb dX2_isNet_33 rfl ?_
      exact hret 0 _ _ (Or.inr ⟨rfl, by first | omega | simp_all⟩) dX2_isNet_34
    · skip
      refine lv_aload_n hx hb dX2_isNet_18 rfl (lv_at hl 0 rfl) ?_
      refine kx_cV (As := []) (rest := []) (st1 := [.int (iI (fau te le.toNat : Int))]) (q0 := 0) (ci := 2) ⟨hx, hb, hml, hown, hts⟩ (c_X2_firstFault l D cI cZ p p1 le te (by first | assumption | omega) (by first | assumption | omega)) (cwV 0 hts gX2_isNet_X2_firstFault rfl rfl rfl (by decide +kernel) ⟨Nat.le_of_ble_eq_true rfl, Nat.le_of_ble_eq_true rfl⟩) hK hP rfl rfl rfl hl.1 rfl (Nat.le_of_ble_eq_true rfl) dX2_isNet_19 ⟨Nat.zero_le _, Nat.zero_le _⟩ rfl ?_
      refine lv_aload_n hx hb dX2_isNet_22 rfl (lv_at hl 0 rfl) ?_
      refine va_get (D := D) (ci := 2) (v := .int (iI le)) (C := RX2) (T := TX2) (N := 2) hx hb hts iX2 hown hK.1 hP 0 rfl rfl 1 (by decide) (hts (.fieldLink RX2 15 "CloseClocks$Page" "length" "I") (by decide +kernel)) (fun _ h9 => h9) rfl dX2_isNet_23 ?_
      refine kx_icmp_ne (tgt := 33) hx hb (by omega) (by omega) dX2_isNet_26 (by decide) (fun h26 => ?_) (fun h26 => ?_)
      · skip
        refine kx_const (z := 0) hx hb dX2_isNet_33 rfl ?_
        exact hret 0 _ _ (Or.inr ⟨rfl, by first | omega | simp_all⟩) dX2_isNet_34
      · skip
        refine kx_const (z := 1) hx hb dX2_isNet_29 rfl ?_
        refine lv_goto (tgt := 34) hx hb dX2_isNet_30 (by decide) ?_
        exact hret 1 _ _ (Or.inl ⟨rfl, by first | omega | simp_all | (refine ⟨?_, ?_⟩ <;> omega)⟩) dX2_isNet_34
