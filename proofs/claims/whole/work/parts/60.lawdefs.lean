section KXL
variable {p : Program} {l : Launch} {e : Env} {R : Room} {s : State} {m : MethodId} {args : Array Value} {below : List Frame} {meth : Method} {c : Code} {H : Heap} {locs : List Loc} {cells slots : Nat} {Q : State → Prop}
variable {cc : ByteArray} {pc : Nat} {ls : Array Slot} {rest : List Value} {A : Nat → Prop} {H0 : Heap}
theorem kx_sld {b L k : Nat} {z : Int} {xs : Nat → Int32} (hx : p.tables.exec = Jvm.exec) (hb : c.code = cc) (hX : va_X b L xs s H0) (hbl : b < H0.size) (hbA : ¬ A b) (hS : va_S A H0 H locs) (hz : z = k) (hk : k < L) (hL : L < 2147483648) (hdg : decode cc pc = .ok (.iaload, 1))
    (kk : W p l e R s m args below meth c H locs cells slots Q (F0 m (pc + 1) ls (.int (iI (xs k).toInt) :: rest))) : W p l e R s m args below meth c H locs cells slots Q (F0 m pc ls (.int (iI z) :: .ref b :: rest)) := by
  refine va_sld hx hb hX hbl hbA hS (iI_in hz hk hL) hdg ?_
  have e9 : xs (iI z).toNatClampNeg = iI (xs k).toInt := by rw [iI_cl hz (by omega), iI_of]
  rw [e9]
  exact kk
theorem kx_same {a b : Int} (hx : p.tables.exec = Jvm.exec) (hb : c.code = cc) {off : Int} {tgt : Nat} (hab : a = b) (hdg : decode cc pc = .ok (.if_icmp .eq off, 3)) (ht : (pc : Int) + off = (tgt : Int))
    (kk : W p l e R s m args below meth c H locs cells slots Q (F0 m tgt ls rest)) : W p l e R s m args below meth c H locs cells slots Q (F0 m pc ls (.int (iI b) :: .int (iI a) :: rest)) :=
  lv_icmp_eq hx hb hdg ht (fun _ => kk) (fun h => absurd (by rw [hab]) h)
theorem kx_samel {a b : Int64} (hx : p.tables.exec = Jvm.exec) (hb : c.code = cc) {off : Int} {tgt : Nat} (hab : a = b) (hd1 : decode cc pc = .ok (.lcmp, 1)) (hd2 : decode cc (pc + 1) = .ok (.ifCond .eq off, 3)) (ht : ((pc + 1 : Nat) : Int) + off = (tgt : Int))
    (kk : W p l e R s m args below meth c H locs cells slots Q (F0 m tgt ls rest)) : W p l e R s m args below meth c H locs cells slots Q (F0 m pc ls (.long b :: .long a :: rest)) := by
  subst hab
  refine W.lcmp hx hb hd1 ?_
  have e0 : lg_cmp a a = 0 := by simp [lg_cmp]
  rw [e0]
  exact lv_if_eq hx hb hd2 ht (fun _ => kk) (fun h => absurd rfl h)
end KXL
/-- what holds all along the law -/
def lwC (pr : Program) (s : State) (mi : MethodId) (args : Array Value) (co : Code) (D : va_G) (cI cZ : ClassId) (A : Nat → Prop) (H0 : Heap) (b L : Nat) (xs : Nat → Int32) : Prop := pr.tables.exec = Jvm.exec ∧ co.code = code ∧ co.maxLocals = 4 ∧ s.vm.findClass RL = some mi.cls ∧ (∀ w ∈ wsL_law, w.before args s = true) ∧ kK D cI cZ s ∧ (∀ q : Nat, H0.size ≤ q → A q) ∧ va_X b L xs s H0 ∧ b < H0.size ∧ ¬ A b ∧ L ≤ 2048
/-- the class and the reference, in step -/
def lwI (D : va_G) (cI cZ : ClassId) (A : Nat → Prop) (H0 : Heap) (x p p1 n n1 n2 n3 a a1 a2 a3 a4 a5 a6 k k1 k2 k3 k4 k5 k6 t t1 t2 t3 t4 t5 t6 h m1 m4 m5 m6 m7 m8 m9 m21 m22 m23 m24 m25 m26 m30 m31 m32 m33 m34 m35 : Nat) (H : Heap) (locs : List Loc) : Prop := ∃ (le : Int) (te : Nat → Int) (no li : Int) (dg nb wy pa ra fa ft dy er : Nat → Int) (ti gr ah be : Int) (pak rak fak ftk dyk erk : Nat → Int) (tik grk ahk bek : Int) (pat rat fat ftt dyt ert : Nat → Int) (tit grt aht bet ik sp bo nr te9 pl nd lk st bq tj tv nv ml nn nl du nO nT wm wb ij kt kl : Int) (hh : Int64) (pg dl es rb ck fb fu nw tu tc tr tf tt kc kr ke kd kf kg : Nat → Int), RR le te no li dg nb wy pa ra fa ft dy er ti gr pak rak fak ftk dyk erk tik grk ik sp bo nr te9 pl nd lk st bq tj tv nv ml ij kt kl pg dl es rb ck fb fu kc kr ke kd kf kg ∧ va_P D vwCl (xW cI cZ x p p1 n n1 n2 n3 a a1 a2 a3 a4 a5 a6 k k1 k2 k3 k4 k5 k6 t t1 t2 t3 t4 t5 t6 le te no li dg nb wy pa ra fa ft dy er ti gr ah be pak rak fak ftk dyk erk tik grk ahk bek pat rat fat ftt dyt ert tit grt aht bet ik sp bo nr te9 ++ mdW cI cZ h m1 m4 m5 m6 m7 m8 m9 m21 m22 m23 m24 m25 m26 m30 m31 m32 m33 m34 m35 pl nd lk st bq tj tv nv ml nn nl du nO nT wm wb ij kt kl hh pg dl es rb ck fb fu nw tu tc tr tf tt kc kr ke kd kf kg) H ∧ va_D A (xW cI cZ x p p1 n n1 n2 n3 a a1 a2 a3 a4 a5 a6 k k1 k2 k3 k4 k5 k6 t t1 t2 t3 t4 t5 t6 le te no li dg nb wy pa ra fa ft dy er ti gr ah be pak rak fak ftk dyk erk tik grk ahk bek pat rat fat ftt dyt ert tit grt aht bet ik sp bo nr te9 ++ mdW cI cZ h m1 m4 m5 m6 m7 m8 m9 m21 m22 m23 m24 m25 m26 m30 m31 m32 m33 m34 m35 pl nd lk st bq tj tv nv ml nn nl du nO nT wm wb ij kt kl hh pg dl es rb ck fb fu nw tu tc tr tf tt kc kr ke kd kf kg) ∧ va_S A H0 H locs
