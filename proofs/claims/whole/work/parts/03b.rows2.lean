/-- an array's cell, by another function that says the same of its places -/
theorem kx_arr {D : va_G} {A : Nat → Prop} {ws : va_W} {H : Heap} {c : ClassId} {n a : Nat} {g g' : Nat → Int} (hP : va_P D vwCl ws H) (hD : va_D A ws) (q0 : Nat) (hq : ws[q0]? = some (a, aI c n g)) (hg : ∀ k : Nat, k < n → g k = g' k) : va_P D vwCl (ws.set q0 (a, aI c n g')) H ∧ va_D A (ws.set q0 (a, aI c n g')) := by
  refine ⟨va_P.set hP hD hq ?_ (fun _ _ => rfl), va_D.set hD hq⟩
  have h : H[a]? = some (vp_cell c (n, .inl (fun k => iI (g k)))) := hP q0 _ hq
  show H[a]? = some (vp_cell c (n, .inl (fun k => iI (g' k))))
  rw [h, vp_cell_i, vp_cell_i, arrV, arrV]
  congr 3
  funext j
  rw [hg j.val j.isLt]
theorem iN_or (a b : Nat) : iI (a : Int) ||| iI (b : Int) = iI ((a ||| b : Nat) : Int) := by
  rw [← iI_nat, ← iI_nat, ← iI_nat]
  apply Int32.toBitVec_inj.1
  show BitVec.ofNat 32 a ||| BitVec.ofNat 32 b = BitVec.ofNat 32 (a ||| b)
  apply BitVec.eq_of_getLsbD_eq
  intro i hi
  simp [hi]
theorem iN_sm : ∀ n, n < 32 → ((nI n &&& 31).toBitVec.smod 32).toNat = n := by decide +kernel
theorem iN_shr {m w : Nat} (hm : m < 2147483648) (hw : w < 32) : iI (m : Int) >>> (iI (w : Int) &&& 31) = iI ((m / 2 ^ w : Nat) : Int) := by
  rw [← iI_nat, ← iI_nat, ← iI_nat]
  exact pk_shrN (by omega) _ w (iN_sm w hw)
theorem iN_shl {m w : Nat} (hw : w < 32) (hm : m * 2 ^ w < 2147483648) : iI (m : Int) <<< (iI (w : Int) &&& 31) = iI ((m * 2 ^ w : Nat) : Int) := by
  rw [← iI_nat, ← iI_nat, ← iI_nat]
  exact pk_shlN _ w (iN_sm w hw) (by omega)
theorem iN_and1 {m : Nat} (hm : m < 2147483648) : iI (m : Int) &&& iI 1 = iI ((m % 2 : Nat) : Int) := by
  rw [← iI_nat, ← iI_nat]
  exact pk_andN (by omega) 1 rfl
section KXB
variable {p : Program} {l : Launch} {e : Env} {R : Room} {s : State} {m : MethodId} {args : Array Value} {below : List Frame} {meth : Method} {c : Code} {H : Heap} {locs : List Loc} {cells slots : Nat} {Q : State → Prop}
variable {cc : ByteArray} {pc : Nat} {ls : Array Slot} {rest : List Value} {D : va_G} {A : Nat → Prop} {a : Nat} {ws : va_W} {H0 : Heap} {cI cZ : ClassId}
theorem kx_ishr {n w : Nat} (hx : p.tables.exec = Jvm.exec) (hb : c.code = cc) (hn : n < 2147483648) (hw : w < 32) (hdg : decode cc pc = .ok (.ishr, 1)) (k : W p l e R s m args below meth c H locs cells slots Q (F0 m (pc + 1) ls (.int (iI ((n / 2 ^ w : Nat) : Int)) :: rest))) : W p l e R s m args below meth c H locs cells slots Q (F0 m pc ls (.int (iI (w : Int)) :: .int (iI (n : Int)) :: rest)) := by
  refine lv_ishr hx hb hdg ?_
  rw [iN_shr hn hw]
  exact k
theorem kx_ishl {n w : Nat} (hx : p.tables.exec = Jvm.exec) (hb : c.code = cc) (hw : w < 32) (hn : n * 2 ^ w < 2147483648) (hdg : decode cc pc = .ok (.ishl, 1)) (k : W p l e R s m args below meth c H locs cells slots Q (F0 m (pc + 1) ls (.int (iI ((n * 2 ^ w : Nat) : Int)) :: rest))) : W p l e R s m args below meth c H locs cells slots Q (F0 m pc ls (.int (iI (w : Int)) :: .int (iI (n : Int)) :: rest)) := by
  refine lv_ishl hx hb hdg ?_
  rw [iN_shl hw hn]
  exact k
theorem kx_iand1 {n : Nat} (hx : p.tables.exec = Jvm.exec) (hb : c.code = cc) (hn : n < 2147483648) (hdg : decode cc pc = .ok (.iand, 1)) (k : W p l e R s m args below meth c H locs cells slots Q (F0 m (pc + 1) ls (.int (iI ((n % 2 : Nat) : Int)) :: rest))) : W p l e R s m args below meth c H locs cells slots Q (F0 m pc ls (.int (iI 1) :: .int (iI (n : Int)) :: rest)) := by
  refine lv_iand hx hb hdg ?_
  rw [iN_and1 hn]
  exact k
theorem kx_ior {n w : Nat} (hx : p.tables.exec = Jvm.exec) (hb : c.code = cc) (hdg : decode cc pc = .ok (.ior, 1)) (k : W p l e R s m args below meth c H locs cells slots Q (F0 m (pc + 1) ls (.int (iI ((n ||| w : Nat) : Int)) :: rest))) : W p l e R s m args below meth c H locs cells slots Q (F0 m pc ls (.int (iI (w : Int)) :: .int (iI (n : Int)) :: rest)) := by
  refine lv_ior hx hb hdg ?_
  rw [iN_or]
  exact k
theorem kx_copy {n0 n1 a0 : Nat} {f g : Nat → Int} {own : String} {index : Nat} {sp dp n : Nat} (hx : p.tables.exec = Jvm.exec) (hb : c.code = cc) (hml : c.maxLocals = ls.size) (hown : s.vm.findClass own = some m.cls) (hlink : (Cond.methodLink own index arraycopyName).before args s = true) (hnat : (Cond.native arraycopyName).before args s = true) (hstat : (Cond.static arraycopyName).before args s = true) (hini : (Cond.initialized "java/lang/System").before args s = true)
    (hK : kK D cI cZ s) (hP : va_P D vwCl ws H) (hD : va_D A ws) (hS : va_S A H0 H locs) (q0 q1 : Nat) (ha0 : ws[q0]? = some (a0, aI cI n0 f)) (ha1 : ws[q1]? = some (a, aI cI n1 g)) (h1 : sp < 2147483648) (h2 : dp < 2147483648) (h3 : n < 2147483648) (h4 : sp + n ≤ n0) (h5 : dp + n ≤ n1)
    (hframes : 1 ≤ R.frames) (hlocals : (rest.map fun v => v.category).sum + (nativeFrameWords "java/lang/System" "arraycopy" 5 + 11) ≤ R.locals) (hdg : decode cc pc = .ok (.invokestatic index, 3))
    (kk : ∀ (H1 : Heap) (locs1 : List Loc), va_P D vwCl (ws.set q1 (a, aI cI n1 (va_cpy f g sp dp n))) H1 → va_D A (ws.set q1 (a, aI cI n1 (va_cpy f g sp dp n))) → va_S A H0 H1 locs1 → W p l e R s m args below meth c H1 locs1 cells slots Q (F0 m (pc + 3) ls rest)) : W p l e R s m args below meth c H locs cells slots Q (F0 m pc ls (.int (iI (n : Int)) :: .int (iI (dp : Int)) :: .ref a :: .int (iI (sp : Int)) :: .ref a0 :: rest)) := by
  have nn : ∀ z : Nat, z < 2147483648 → ¬ iI (z : Int) < 0 := fun z hz h => by
    have := (iI_lt (a := (z : Int)) (b := 0) (by omega) (by decide)).mp h
    omega
  refine va_copyi hx hb hml hown hlink hnat hstat hini hK.1 hP hD hS q0 q1 0 0 ha0 ha1 rfl rfl rfl (nn sp h1) (nn dp h2) (nn n h3) (by rw [iI_cl rfl h1, iI_cl rfl h3]; exact h4) (by rw [iI_cl rfl h2, iI_cl rfl h3]; exact h5) (fun i hi => rfl) hframes hlocals hdg ?_
  rw [iI_cl rfl h1, iI_cl rfl h2, iI_cl rfl h3]
  have e : va_cpy (fun k => iI (f k)) (fun k => iI (g k)) sp dp n = fun k => iI (va_cpy f g sp dp n k) := by
    funext k
    simp only [va_cpy]
    split <;> rfl
  rw [e]
  exact kk
end KXB
