section KXL
variable {p : Program} {l : Launch} {e : Env} {R : Room} {s : State} {m : MethodId} {args : Array Value} {below : List Frame} {meth : Method} {c : Code} {H : Heap} {locs : List Loc} {cells slots : Nat} {Q : State → Prop}
variable {cc : ByteArray} {pc : Nat} {ls : Array Slot} {rest : List Value} {A : Nat → Prop} {H0 : Heap}
theorem kx_sld {b L k : Nat} {z : Int} {xs : Nat → Int32} (hx : p.tables.exec = Jvm.exec) (hb : c.code = cc) (hX : va_X b L xs s H0) (hbl : b < H0.size) (hbA : ¬ A b) (hS : va_S A H0 H locs) (hz : z = k) (hk : k < L) (hL : L < 2147483648) (hdg : decode cc pc = .ok (.iaload, 1))
    (kk : W p l e R s m args below meth c H locs cells slots Q (F0 m (pc + 1) ls (.int (iI (xs k).toInt) :: rest))) : W p l e R s m args below meth c H locs cells slots Q (F0 m pc ls (.int (iI z) :: .ref b :: rest)) := by
  refine va_sld hx hb hX hbl hbA hS (iI_in hz hk hL) hdg ?_
  have e9 : xs (iI z).toNatClampNeg = iI (xs k).toInt := by rw [iI_cl hz (by omega), iI_of]
  rw [e9]
  exact kk
theorem kx_same {a b : Int} (hx : p.tables.exec = Jvm.exec) (hb : c.code = cc) {off : Int} {tgt : Nat} (hab : a = b) (hdg : decode cc pc = .ok (.if_icmp .eq off, 3)) (ht : (pc : Int) + off = (tgt : Int))
    (kk : W p l e R s m args below meth c H locs cells slots Q (F0 m tgt ls rest)) : W p l e R s m args below meth c H locs cells slots Q (F0 m pc ls (.int (iI b) :: .int (iI a) :: rest)) :=
  lv_icmp_eq hx hb hdg ht (fun _ => kk) (fun h => absurd (by rw [hab]) h)
theorem kx_samel {a b : Int64} (hx : p.tables.exec = Jvm.exec) (hb : c.code = cc) {off : Int} {tgt : Nat} (hab : a = b) (hd1 : decode cc pc = .ok (.lcmp, 1)) (hd2 : decode cc (pc + 1) = .ok (.ifCond .eq off, 3)) (ht : ((pc + 1 : Nat) : Int) + off = (tgt : Int))
    (kk : W p l e R s m args below meth c H locs cells slots Q (F0 m tgt ls rest)) : W p l e R s m args below meth c H locs cells slots Q (F0 m pc ls (.long b :: .long a :: rest)) := by
  subst hab
  refine W.lcmp hx hb hd1 ?_
  have e0 : lg_cmp a a = 0 := by simp [lg_cmp]
  rw [e0]
  exact lv_if_eq hx hb hd2 ht (fun _ => kk) (fun h => absurd rfl h)
theorem kx_isC {wc wr : va_W} {n : Nat} (h1 : wc.length = n) : (List.range n).map (fun i => (wc ++ wr)[i]?) = wc.map some := by
  subst h1
  apply List.ext_getElem?
  intro k
  by_cases hk : k < wc.length
  · rw [List.getElem?_map, List.getElem?_map, List.getElem?_range hk, List.getElem?_eq_getElem hk]
    show some ((wc ++ wr)[k]?) = some (some wc[k])
    rw [List.getElem?_append_left hk, List.getElem?_eq_getElem hk]
  · rw [List.getElem?_eq_none (by simp; omega), List.getElem?_eq_none (by simp; omega)]
theorem kx_isR {wc wr : va_W} {n1 n2 : Nat} (h1 : wc.length = n1) (h2 : wr.length = n2) : (List.range' n1 n2).map (fun i => (wc ++ wr)[i]?) = wr.map some := by
  subst h1
  subst h2
  apply List.ext_getElem?
  intro k
  by_cases hk : k < wr.length
  · rw [List.getElem?_map, List.getElem?_map, List.getElem?_range' hk, List.getElem?_eq_getElem hk]
    show some ((wc ++ wr)[wc.length + 1 * k]?) = some (some wr[k])
    rw [List.getElem?_append_right (by omega), show wc.length + 1 * k - wc.length = k by omega, List.getElem?_eq_getElem hk]
  · rw [List.getElem?_eq_none (by simp; omega), List.getElem?_eq_none (by simp; omega)]
theorem lw_nd1 : va_nd (List.range 28) = true := by decide +kernel
theorem lw_nd2 : va_nd (List.range' 28 20) = true := by decide +kernel
theorem lw_nd3 : va_nd (List.range 20) = true := by decide +kernel
theorem lw_nd4 : va_nd (List.range' 20 28) = true := by decide +kernel
theorem lw_nd5 : va_nd (List.range' 28 20 ++ List.range 28) = true := by decide +kernel
theorem lw_nd6 : va_nd (List.range' 20 28 ++ List.range 20) = true := by decide +kernel
theorem kx_swap {D : va_G} {a9 b9 : va_W} {n1 n2 : Nat} (hP : va_P D vwCl (a9 ++ b9) H) (hD : va_D A (a9 ++ b9)) (h1 : a9.length = n1) (h2 : b9.length = n2) (hnd : va_nd (List.range' n1 n2 ++ List.range n1) = true) : va_P D vwCl (b9 ++ a9) H ∧ va_D A (b9 ++ a9) := by
  have hm : (List.range' n1 n2 ++ List.range n1).map (fun i => (a9 ++ b9)[i]?) = (b9 ++ a9).map some := by
    rw [List.map_append, List.map_append, kx_isR h1 h2, kx_isC h1]
  exact ⟨kx_Psub hP _ hm, hD.sub _ hnd hm⟩
/-- the callee's world first, the rest behind it -/
theorem kx_cVWf {D : va_G} {cI cZ : ClassId} {y : MethodName} {bytes : ByteArray} {maxL nL n index mc ms n1 n2 : Nat} {ret : Option FieldType} {wy : List Cond} {rm : Room} {Ts : List Cond} {own C : String} {b : Addr} {As st0 : List Value} {wc wr : va_W} {S' : Type} {ov : S' → Option Value} {post : S' → Prop} {w1 : S' → va_W} {ci q0 : Nat} {fs : List Value} {T : u_T} {N : Nat}
    (S : CallFix p m c cc nL s args Ts own) (hM : kWR l y wy rm D cI cZ (.ref b :: As) wc ov post w1 mc ms) (cw : CallW R s args own C index y bytes maxL ret wy rm mc ms n) (hK : kK D cI cZ s) (hP : va_P D vwCl (wc ++ wr) H) (hD : va_D A (wc ++ wr)) (hS : va_S A H0 H locs) (hA : ∀ q, H0.size ≤ q → A q)
    (h1 : wc.length = n1) (h2 : wr.length = n2) (hnC : va_nd (List.range n1) = true) (hnR : va_nd (List.range' n1 n2) = true)
    (hq : wc[q0]? = some (b, .inr (ci, fs))) (hc : vwCl[ci]? = some (C, T, N)) (hn : As.length = n) (hsize : ls.size = nL) (hst0 : st0 = As.reverse ++ .ref b :: rest) (hW : (rest.map fun v => v.category).sum ≤ 8) (hdg : decode cc pc = .ok (.invokevirtual index, 3)) (hf : cells + mc ≤ R.cells ∧ slots + ms ≤ R.slots)
    (kk : ∀ (u : S') (H1 : Heap) (locs1 : List Loc), post u → va_P D vwCl (wr ++ w1 u) H1 → va_D A (wr ++ w1 u) → va_S A H0 H1 locs1 → W p l e R s m args below meth c H1 locs1 (cells + mc) (slots + ms) Q (F0 m (pc + 3) ls ((ov u).toList ++ rest))) : W p l e R s m args below meth c H locs cells slots Q (F0 m pc ls st0) :=
  kx_cVW S hM cw hK hP hD hS hA (List.range n1) (List.range' n1 n2) (kx_isC h1) (kx_isR h1 h2) hnC hnR (fun i hi hj => by
    have g1 := (List.mem_range'_1.mp hi).1
    have g2 := List.mem_range.mp hj
    omega) hq hc hn hsize hst0 hW hdg hf kk
end KXL
/-- what holds all along the law -/
def lwC (pr : Program) (s : State) (mi : MethodId) (args : Array Value) (co : Code) (D : va_G) (cI cZ : ClassId) (A : Nat → Prop) (H0 : Heap) (b L : Nat) (xs : Nat → Int32) : Prop := pr.tables.exec = Jvm.exec ∧ co.code = code ∧ co.maxLocals = 4 ∧ s.vm.findClass RL = some mi.cls ∧ (∀ w ∈ wsL_law, w.before args s = true) ∧ kK D cI cZ s ∧ (∀ q : Nat, H0.size ≤ q → A q) ∧ va_X b L xs s H0 ∧ b < H0.size ∧ ¬ A b ∧ L ≤ 2048
