section
-- ===== PART A: goes FIRST, ahead of the names: the tables' words, and 'selects' of the private methods out of them =====
/-- a private method of a class that the tables say can be made, by its rows of tables_1 -/
def lw_okq (q : MethodName × Nat) : Prop := (q.1.cls ≠ "java/lang/invoke/MethodHandle" ∧ q.1.cls ≠ "java/lang/invoke/VarHandle") ∧ Cond.instantiable q.1.cls q.2 ∈ tables_1 ∧ Cond.privateMethod q.1 ∈ tables_1 ∧ Cond.instanceMethod q.1 ∈ tables_1
theorem lw_p0 : lw_okq (⟨"CloseClocks$Page", "fitsAt", "(I)Z"⟩, 2) := ⟨⟨by decide +kernel, by decide +kernel⟩, List.mem_of_getElem? (i := 18) (by decide +kernel), List.mem_of_getElem? (i := 170) (by decide +kernel), List.mem_of_getElem? (i := 171) (by decide +kernel)⟩
theorem lw_p1 : lw_okq (⟨"CloseClocks$Page", "isNode", "(I)Z"⟩, 2) := ⟨⟨by decide +kernel, by decide +kernel⟩, List.mem_of_getElem? (i := 18) (by decide +kernel), List.mem_of_getElem? (i := 183) (by decide +kernel), List.mem_of_getElem? (i := 184) (by decide +kernel)⟩
theorem lw_p2 : lw_okq (⟨"CloseClocks$Page", "isNewLink", "(I)Z"⟩, 2) := ⟨⟨by decide +kernel, by decide +kernel⟩, List.mem_of_getElem? (i := 18) (by decide +kernel), List.mem_of_getElem? (i := 187) (by decide +kernel), List.mem_of_getElem? (i := 188) (by decide +kernel)⟩
theorem lw_p3 : lw_okq (⟨"CloseClocks$Net", "join", "(II)V"⟩, 5) := ⟨⟨by decide +kernel, by decide +kernel⟩, List.mem_of_getElem? (i := 33) (by decide +kernel), List.mem_of_getElem? (i := 217) (by decide +kernel), List.mem_of_getElem? (i := 218) (by decide +kernel)⟩
theorem lw_p4 : lw_okq (⟨"CloseClocks$Net", "addNeighbour", "(II)V"⟩, 5) := ⟨⟨by decide +kernel, by decide +kernel⟩, List.mem_of_getElem? (i := 33) (by decide +kernel), List.mem_of_getElem? (i := 225) (by decide +kernel), List.mem_of_getElem? (i := 226) (by decide +kernel)⟩
theorem lw_p5 : lw_okq (⟨"CloseClocks$Net", "shortenWays", "()V"⟩, 5) := ⟨⟨by decide +kernel, by decide +kernel⟩, List.mem_of_getElem? (i := 33) (by decide +kernel), List.mem_of_getElem? (i := 229) (by decide +kernel), List.mem_of_getElem? (i := 230) (by decide +kernel)⟩
theorem lw_p6 : lw_okq (⟨"CloseClocks$Clocks", "compareGuesses", "(I)V"⟩, 11) := ⟨⟨by decide +kernel, by decide +kernel⟩, List.mem_of_getElem? (i := 61) (by decide +kernel), List.mem_of_getElem? (i := 304) (by decide +kernel), List.mem_of_getElem? (i := 305) (by decide +kernel)⟩
theorem lw_p7 : lw_okq (⟨"CloseClocks$Clocks", "upLevel", "(I)I"⟩, 11) := ⟨⟨by decide +kernel, by decide +kernel⟩, List.mem_of_getElem? (i := 61) (by decide +kernel), List.mem_of_getElem? (i := 320) (by decide +kernel), List.mem_of_getElem? (i := 321) (by decide +kernel)⟩
theorem lw_p8 : lw_okq (⟨"CloseClocks$Clocks", "downLevel", "(I)I"⟩, 11) := ⟨⟨by decide +kernel, by decide +kernel⟩, List.mem_of_getElem? (i := 61) (by decide +kernel), List.mem_of_getElem? (i := 330) (by decide +kernel), List.mem_of_getElem? (i := 331) (by decide +kernel)⟩
theorem lw_p9 : lw_okq (⟨"CloseClocks", "searchWorst", "(I)J"⟩, 10) := ⟨⟨by decide +kernel, by decide +kernel⟩, List.mem_of_getElem? (i := 10) (by decide +kernel), List.mem_of_getElem? (i := 408) (by decide +kernel), List.mem_of_getElem? (i := 409) (by decide +kernel)⟩
theorem lw_p10 : lw_okq (⟨"CloseClocks", "mixNodes", "(J)J"⟩, 10) := ⟨⟨by decide +kernel, by decide +kernel⟩, List.mem_of_getElem? (i := 10) (by decide +kernel), List.mem_of_getElem? (i := 454) (by decide +kernel), List.mem_of_getElem? (i := 455) (by decide +kernel)⟩
theorem lw_p11 : lw_okq (⟨"CloseClocks", "mixLinks", "(J)J"⟩, 10) := ⟨⟨by decide +kernel, by decide +kernel⟩, List.mem_of_getElem? (i := 10) (by decide +kernel), List.mem_of_getElem? (i := 463) (by decide +kernel), List.mem_of_getElem? (i := 464) (by decide +kernel)⟩
theorem lw_p12 : lw_okq (⟨"CloseClocks", "mixLink", "(JII)J"⟩, 10) := ⟨⟨by decide +kernel, by decide +kernel⟩, List.mem_of_getElem? (i := 10) (by decide +kernel), List.mem_of_getElem? (i := 467) (by decide +kernel), List.mem_of_getElem? (i := 468) (by decide +kernel)⟩
theorem lw_p13 : lw_okq (⟨"CloseClocks", "mixSkews", "(J)J"⟩, 10) := ⟨⟨by decide +kernel, by decide +kernel⟩, List.mem_of_getElem? (i := 10) (by decide +kernel), List.mem_of_getElem? (i := 472) (by decide +kernel), List.mem_of_getElem? (i := 473) (by decide +kernel)⟩
theorem lw_p14 : lw_okq (⟨"CloseClocksModel", "goAlong", "()I"⟩, 39) := ⟨⟨by decide +kernel, by decide +kernel⟩, List.mem_of_getElem? (i := 480) (by decide +kernel), List.mem_of_getElem? (i := 622) (by decide +kernel), List.mem_of_getElem? (i := 623) (by decide +kernel)⟩
theorem lw_p15 : lw_okq (⟨"CloseClocksModel", "takes", "(I)Z"⟩, 39) := ⟨⟨by decide +kernel, by decide +kernel⟩, List.mem_of_getElem? (i := 480) (by decide +kernel), List.mem_of_getElem? (i := 627) (by decide +kernel), List.mem_of_getElem? (i := 628) (by decide +kernel)⟩
def lw_privs_1 : List (MethodName × Nat) := [(⟨"CloseClocks$Page", "fitsAt", "(I)Z"⟩, 2), (⟨"CloseClocks$Page", "isNode", "(I)Z"⟩, 2), (⟨"CloseClocks$Page", "isNewLink", "(I)Z"⟩, 2), (⟨"CloseClocks$Net", "join", "(II)V"⟩, 5), (⟨"CloseClocks$Net", "addNeighbour", "(II)V"⟩, 5), (⟨"CloseClocks$Net", "shortenWays", "()V"⟩, 5), (⟨"CloseClocks$Clocks", "compareGuesses", "(I)V"⟩, 11), (⟨"CloseClocks$Clocks", "upLevel", "(I)I"⟩, 11), (⟨"CloseClocks$Clocks", "downLevel", "(I)I"⟩, 11), (⟨"CloseClocks", "searchWorst", "(I)J"⟩, 10), (⟨"CloseClocks", "mixNodes", "(J)J"⟩, 10), (⟨"CloseClocks", "mixLinks", "(J)J"⟩, 10), (⟨"CloseClocks", "mixLink", "(JII)J"⟩, 10), (⟨"CloseClocks", "mixSkews", "(J)J"⟩, 10), (⟨"CloseClocksModel", "goAlong", "()I"⟩, 39), (⟨"CloseClocksModel", "takes", "(I)Z"⟩, 39)]
theorem lw_r1 : ∀ q ∈ lw_privs_1, lw_okq q := List.forall_mem_cons.mpr ⟨lw_p0, List.forall_mem_cons.mpr ⟨lw_p1, List.forall_mem_cons.mpr ⟨lw_p2, List.forall_mem_cons.mpr ⟨lw_p3, List.forall_mem_cons.mpr ⟨lw_p4, List.forall_mem_cons.mpr ⟨lw_p5, List.forall_mem_cons.mpr ⟨lw_p6, List.forall_mem_cons.mpr ⟨lw_p7, List.forall_mem_cons.mpr ⟨lw_p8, List.forall_mem_cons.mpr ⟨lw_p9, List.forall_mem_cons.mpr ⟨lw_p10, List.forall_mem_cons.mpr ⟨lw_p11, List.forall_mem_cons.mpr ⟨lw_p12, List.forall_mem_cons.mpr ⟨lw_p13, List.forall_mem_cons.mpr ⟨lw_p14, List.forall_mem_cons.mpr ⟨lw_p15, fun _ h => absurd h List.not_mem_nil⟩⟩⟩⟩⟩⟩⟩⟩⟩⟩⟩⟩⟩⟩⟩⟩
theorem lw_p16 : lw_okq (⟨"CloseClocksModel", "takesDigit", "(I)Z"⟩, 39) := ⟨⟨by decide +kernel, by decide +kernel⟩, List.mem_of_getElem? (i := 480) (by decide +kernel), List.mem_of_getElem? (i := 631) (by decide +kernel), List.mem_of_getElem? (i := 632) (by decide +kernel)⟩
theorem lw_p17 : lw_okq (⟨"CloseClocksModel", "setClock", "(II)V"⟩, 39) := ⟨⟨by decide +kernel, by decide +kernel⟩, List.mem_of_getElem? (i := 480) (by decide +kernel), List.mem_of_getElem? (i := 640) (by decide +kernel), List.mem_of_getElem? (i := 641) (by decide +kernel)⟩
theorem lw_p18 : lw_okq (⟨"CloseClocksModel", "isNode", "(I)Z"⟩, 39) := ⟨⟨by decide +kernel, by decide +kernel⟩, List.mem_of_getElem? (i := 480) (by decide +kernel), List.mem_of_getElem? (i := 652) (by decide +kernel), List.mem_of_getElem? (i := 653) (by decide +kernel)⟩
theorem lw_p19 : lw_okq (⟨"CloseClocksModel", "areBeside", "(II)Z"⟩, 39) := ⟨⟨by decide +kernel, by decide +kernel⟩, List.mem_of_getElem? (i := 480) (by decide +kernel), List.mem_of_getElem? (i := 666) (by decide +kernel), List.mem_of_getElem? (i := 667) (by decide +kernel)⟩
theorem lw_p20 : lw_okq (⟨"CloseClocksModel", "tick", "()V"⟩, 39) := ⟨⟨by decide +kernel, by decide +kernel⟩, List.mem_of_getElem? (i := 480) (by decide +kernel), List.mem_of_getElem? (i := 678) (by decide +kernel), List.mem_of_getElem? (i := 679) (by decide +kernel)⟩
theorem lw_p21 : lw_okq (⟨"CloseClocksModel", "upOf", "(I)I"⟩, 39) := ⟨⟨by decide +kernel, by decide +kernel⟩, List.mem_of_getElem? (i := 480) (by decide +kernel), List.mem_of_getElem? (i := 682) (by decide +kernel), List.mem_of_getElem? (i := 683) (by decide +kernel)⟩
theorem lw_p22 : lw_okq (⟨"CloseClocksModel", "off", "(IZ)I"⟩, 39) := ⟨⟨by decide +kernel, by decide +kernel⟩, List.mem_of_getElem? (i := 480) (by decide +kernel), List.mem_of_getElem? (i := 686) (by decide +kernel), List.mem_of_getElem? (i := 687) (by decide +kernel)⟩
theorem lw_p23 : lw_okq (⟨"CloseClocksModel", "guess", "(II)I"⟩, 39) := ⟨⟨by decide +kernel, by decide +kernel⟩, List.mem_of_getElem? (i := 480) (by decide +kernel), List.mem_of_getElem? (i := 690) (by decide +kernel), List.mem_of_getElem? (i := 691) (by decide +kernel)⟩
theorem lw_p24 : lw_okq (⟨"CloseClocksModel", "trigger", "(III)I"⟩, 39) := ⟨⟨by decide +kernel, by decide +kernel⟩, List.mem_of_getElem? (i := 480) (by decide +kernel), List.mem_of_getElem? (i := 694) (by decide +kernel), List.mem_of_getElem? (i := 695) (by decide +kernel)⟩
theorem lw_p25 : lw_okq (⟨"CloseClocksModel", "firstOf", "(II)I"⟩, 39) := ⟨⟨by decide +kernel, by decide +kernel⟩, List.mem_of_getElem? (i := 480) (by decide +kernel), List.mem_of_getElem? (i := 698) (by decide +kernel), List.mem_of_getElem? (i := 699) (by decide +kernel)⟩
theorem lw_p26 : lw_okq (⟨"CloseClocksModel", "downOf", "(I)I"⟩, 39) := ⟨⟨by decide +kernel, by decide +kernel⟩, List.mem_of_getElem? (i := 480) (by decide +kernel), List.mem_of_getElem? (i := 702) (by decide +kernel), List.mem_of_getElem? (i := 703) (by decide +kernel)⟩
theorem lw_p27 : lw_okq (⟨"CloseClocksModel", "local", "()I"⟩, 39) := ⟨⟨by decide +kernel, by decide +kernel⟩, List.mem_of_getElem? (i := 480) (by decide +kernel), List.mem_of_getElem? (i := 706) (by decide +kernel), List.mem_of_getElem? (i := 707) (by decide +kernel)⟩
theorem lw_p28 : lw_okq (⟨"CloseClocksModel", "skewOf", "(II)I"⟩, 39) := ⟨⟨by decide +kernel, by decide +kernel⟩, List.mem_of_getElem? (i := 480) (by decide +kernel), List.mem_of_getElem? (i := 710) (by decide +kernel), List.mem_of_getElem? (i := 711) (by decide +kernel)⟩
theorem lw_p29 : lw_okq (⟨"CloseClocksModel", "hopsNow", "(II)I"⟩, 39) := ⟨⟨by decide +kernel, by decide +kernel⟩, List.mem_of_getElem? (i := 480) (by decide +kernel), List.mem_of_getElem? (i := 718) (by decide +kernel), List.mem_of_getElem? (i := 719) (by decide +kernel)⟩
theorem lw_p30 : lw_okq (⟨"CloseClocksModel", "skewNow", "(I)I"⟩, 39) := ⟨⟨by decide +kernel, by decide +kernel⟩, List.mem_of_getElem? (i := 480) (by decide +kernel), List.mem_of_getElem? (i := 726) (by decide +kernel), List.mem_of_getElem? (i := 727) (by decide +kernel)⟩
theorem lw_p31 : lw_okq (⟨"CloseClocksModel", "global", "()I"⟩, 39) := ⟨⟨by decide +kernel, by decide +kernel⟩, List.mem_of_getElem? (i := 480) (by decide +kernel), List.mem_of_getElem? (i := 730) (by decide +kernel), List.mem_of_getElem? (i := 731) (by decide +kernel)⟩
def lw_privs_2 : List (MethodName × Nat) := [(⟨"CloseClocksModel", "takesDigit", "(I)Z"⟩, 39), (⟨"CloseClocksModel", "setClock", "(II)V"⟩, 39), (⟨"CloseClocksModel", "isNode", "(I)Z"⟩, 39), (⟨"CloseClocksModel", "areBeside", "(II)Z"⟩, 39), (⟨"CloseClocksModel", "tick", "()V"⟩, 39), (⟨"CloseClocksModel", "upOf", "(I)I"⟩, 39), (⟨"CloseClocksModel", "off", "(IZ)I"⟩, 39), (⟨"CloseClocksModel", "guess", "(II)I"⟩, 39), (⟨"CloseClocksModel", "trigger", "(III)I"⟩, 39), (⟨"CloseClocksModel", "firstOf", "(II)I"⟩, 39), (⟨"CloseClocksModel", "downOf", "(I)I"⟩, 39), (⟨"CloseClocksModel", "local", "()I"⟩, 39), (⟨"CloseClocksModel", "skewOf", "(II)I"⟩, 39), (⟨"CloseClocksModel", "hopsNow", "(II)I"⟩, 39), (⟨"CloseClocksModel", "skewNow", "(I)I"⟩, 39), (⟨"CloseClocksModel", "global", "()I"⟩, 39)]
theorem lw_r2 : ∀ q ∈ lw_privs_2, lw_okq q := List.forall_mem_cons.mpr ⟨lw_p16, List.forall_mem_cons.mpr ⟨lw_p17, List.forall_mem_cons.mpr ⟨lw_p18, List.forall_mem_cons.mpr ⟨lw_p19, List.forall_mem_cons.mpr ⟨lw_p20, List.forall_mem_cons.mpr ⟨lw_p21, List.forall_mem_cons.mpr ⟨lw_p22, List.forall_mem_cons.mpr ⟨lw_p23, List.forall_mem_cons.mpr ⟨lw_p24, List.forall_mem_cons.mpr ⟨lw_p25, List.forall_mem_cons.mpr ⟨lw_p26, List.forall_mem_cons.mpr ⟨lw_p27, List.forall_mem_cons.mpr ⟨lw_p28, List.forall_mem_cons.mpr ⟨lw_p29, List.forall_mem_cons.mpr ⟨lw_p30, List.forall_mem_cons.mpr ⟨lw_p31, fun _ h => absurd h List.not_mem_nil⟩⟩⟩⟩⟩⟩⟩⟩⟩⟩⟩⟩⟩⟩⟩⟩
theorem lw_p32 : lw_okq (⟨"CloseClocksModel", "levelNow", "()I"⟩, 39) := ⟨⟨by decide +kernel, by decide +kernel⟩, List.mem_of_getElem? (i := 480) (by decide +kernel), List.mem_of_getElem? (i := 734) (by decide +kernel), List.mem_of_getElem? (i := 735) (by decide +kernel)⟩
theorem lw_p33 : lw_okq (⟨"CloseClocksModel", "spreadNow", "(I)I"⟩, 39) := ⟨⟨by decide +kernel, by decide +kernel⟩, List.mem_of_getElem? (i := 480) (by decide +kernel), List.mem_of_getElem? (i := 742) (by decide +kernel), List.mem_of_getElem? (i := 743) (by decide +kernel)⟩
theorem lw_p34 : lw_okq (⟨"CloseClocksModel", "worstNow", "(II)I"⟩, 39) := ⟨⟨by decide +kernel, by decide +kernel⟩, List.mem_of_getElem? (i := 480) (by decide +kernel), List.mem_of_getElem? (i := 750) (by decide +kernel), List.mem_of_getElem? (i := 751) (by decide +kernel)⟩
theorem lw_p35 : lw_okq (⟨"CloseClocksModel", "layWorst", "(I)V"⟩, 39) := ⟨⟨by decide +kernel, by decide +kernel⟩, List.mem_of_getElem? (i := 480) (by decide +kernel), List.mem_of_getElem? (i := 754) (by decide +kernel), List.mem_of_getElem? (i := 755) (by decide +kernel)⟩
theorem lw_p36 : lw_okq (⟨"CloseClocksModel", "setAside", "()V"⟩, 39) := ⟨⟨by decide +kernel, by decide +kernel⟩, List.mem_of_getElem? (i := 480) (by decide +kernel), List.mem_of_getElem? (i := 758) (by decide +kernel), List.mem_of_getElem? (i := 759) (by decide +kernel)⟩
theorem lw_p37 : lw_okq (⟨"CloseClocksModel", "setBack", "()V"⟩, 39) := ⟨⟨by decide +kernel, by decide +kernel⟩, List.mem_of_getElem? (i := 480) (by decide +kernel), List.mem_of_getElem? (i := 762) (by decide +kernel), List.mem_of_getElem? (i := 763) (by decide +kernel)⟩
theorem lw_p38 : lw_okq (⟨"CloseClocksModel", "nodeNow", "(II)I"⟩, 39) := ⟨⟨by decide +kernel, by decide +kernel⟩, List.mem_of_getElem? (i := 480) (by decide +kernel), List.mem_of_getElem? (i := 770) (by decide +kernel), List.mem_of_getElem? (i := 771) (by decide +kernel)⟩
theorem lw_p39 : lw_okq (⟨"CloseClocksModel", "besideOf", "(I)I"⟩, 39) := ⟨⟨by decide +kernel, by decide +kernel⟩, List.mem_of_getElem? (i := 480) (by decide +kernel), List.mem_of_getElem? (i := 774) (by decide +kernel), List.mem_of_getElem? (i := 775) (by decide +kernel)⟩
theorem lw_p40 : lw_okq (⟨"CloseClocksModel", "linkNow", "(III)I"⟩, 39) := ⟨⟨by decide +kernel, by decide +kernel⟩, List.mem_of_getElem? (i := 480) (by decide +kernel), List.mem_of_getElem? (i := 782) (by decide +kernel), List.mem_of_getElem? (i := 783) (by decide +kernel)⟩
theorem lw_p41 : lw_okq (⟨"CloseClocksModel", "howMany", "(I)I"⟩, 39) := ⟨⟨by decide +kernel, by decide +kernel⟩, List.mem_of_getElem? (i := 480) (by decide +kernel), List.mem_of_getElem? (i := 798) (by decide +kernel), List.mem_of_getElem? (i := 799) (by decide +kernel)⟩
theorem lw_p42 : lw_okq (⟨"CloseClocksModel", "fastMany", "()I"⟩, 39) := ⟨⟨by decide +kernel, by decide +kernel⟩, List.mem_of_getElem? (i := 480) (by decide +kernel), List.mem_of_getElem? (i := 802) (by decide +kernel), List.mem_of_getElem? (i := 803) (by decide +kernel)⟩
theorem lw_p43 : lw_okq (⟨"CloseClocksModel", "mix", "(J)V"⟩, 39) := ⟨⟨by decide +kernel, by decide +kernel⟩, List.mem_of_getElem? (i := 480) (by decide +kernel), List.mem_of_getElem? (i := 811) (by decide +kernel), List.mem_of_getElem? (i := 812) (by decide +kernel)⟩
theorem lw_p44 : lw_okq (⟨"CloseClocksModel", "mixLinks", "()V"⟩, 39) := ⟨⟨by decide +kernel, by decide +kernel⟩, List.mem_of_getElem? (i := 480) (by decide +kernel), List.mem_of_getElem? (i := 816) (by decide +kernel), List.mem_of_getElem? (i := 817) (by decide +kernel)⟩
theorem lw_p45 : lw_okq (⟨"CloseClocksModel", "mixSkews", "()V"⟩, 39) := ⟨⟨by decide +kernel, by decide +kernel⟩, List.mem_of_getElem? (i := 480) (by decide +kernel), List.mem_of_getElem? (i := 820) (by decide +kernel), List.mem_of_getElem? (i := 821) (by decide +kernel)⟩
def lw_privs_3 : List (MethodName × Nat) := [(⟨"CloseClocksModel", "levelNow", "()I"⟩, 39), (⟨"CloseClocksModel", "spreadNow", "(I)I"⟩, 39), (⟨"CloseClocksModel", "worstNow", "(II)I"⟩, 39), (⟨"CloseClocksModel", "layWorst", "(I)V"⟩, 39), (⟨"CloseClocksModel", "setAside", "()V"⟩, 39), (⟨"CloseClocksModel", "setBack", "()V"⟩, 39), (⟨"CloseClocksModel", "nodeNow", "(II)I"⟩, 39), (⟨"CloseClocksModel", "besideOf", "(I)I"⟩, 39), (⟨"CloseClocksModel", "linkNow", "(III)I"⟩, 39), (⟨"CloseClocksModel", "howMany", "(I)I"⟩, 39), (⟨"CloseClocksModel", "fastMany", "()I"⟩, 39), (⟨"CloseClocksModel", "mix", "(J)V"⟩, 39), (⟨"CloseClocksModel", "mixLinks", "()V"⟩, 39), (⟨"CloseClocksModel", "mixSkews", "()V"⟩, 39)]
theorem lw_r3 : ∀ q ∈ lw_privs_3, lw_okq q := List.forall_mem_cons.mpr ⟨lw_p32, List.forall_mem_cons.mpr ⟨lw_p33, List.forall_mem_cons.mpr ⟨lw_p34, List.forall_mem_cons.mpr ⟨lw_p35, List.forall_mem_cons.mpr ⟨lw_p36, List.forall_mem_cons.mpr ⟨lw_p37, List.forall_mem_cons.mpr ⟨lw_p38, List.forall_mem_cons.mpr ⟨lw_p39, List.forall_mem_cons.mpr ⟨lw_p40, List.forall_mem_cons.mpr ⟨lw_p41, List.forall_mem_cons.mpr ⟨lw_p42, List.forall_mem_cons.mpr ⟨lw_p43, List.forall_mem_cons.mpr ⟨lw_p44, List.forall_mem_cons.mpr ⟨lw_p45, fun _ h => absurd h List.not_mem_nil⟩⟩⟩⟩⟩⟩⟩⟩⟩⟩⟩⟩⟩⟩
def lw_privs : List (MethodName × Nat) := lw_privs_1 ++ (lw_privs_2 ++ (lw_privs_3))
def lw_tbl : List Cond := k2_sels lw_privs ++ tables_1
theorem lw_privs_ok : ∀ q ∈ lw_privs, lw_okq q := by
  show ∀ q ∈ lw_privs_1 ++ (lw_privs_2 ++ (lw_privs_3)), lw_okq q
  exact List.forall_mem_append.mpr ⟨lw_r1, List.forall_mem_append.mpr ⟨lw_r2, lw_r3⟩⟩
-- ===== end of PART A; then your names; then what follows =====
/-! ===== BEGIN words of one list among another's, by their places ===== -/
theorem goodIn_r {big : List Cond} (ws : List Cond) (ps : List Nat) (hp : ws = ps.filterMap (fun i => big[i]?)) (h : ws.all goodWord = true) : GoodIn big ws := by
  intro w hw
  have h1 := List.all_eq_true.mp h w hw
  rw [hp] at hw
  obtain ⟨i, -, hi⟩ := List.mem_filterMap.mp hw
  have hm : w ∈ big := by first | exact List.mem_of_getElem? hi | exact List.getElem?_mem hi
  exact ⟨hm, good_of_word h1⟩
theorem goodIn_app {big a b : List Cond} (ha : GoodIn big a) (hb : GoodIn big b) : GoodIn big (a ++ b) := fun w h => (List.mem_append.mp h).elim (ha w) (hb w)
theorem goodIn_ca {big a b : List Cond} {c : Cond} (ha : GoodIn big (c :: a)) (hb : GoodIn big b) : GoodIn big (c :: (a ++ b)) := fun w h => (List.mem_cons.mp h).elim (fun e => ha w (List.mem_cons.mpr (Or.inl e))) (fun h => (List.mem_append.mp h).elim (fun h => ha w (List.mem_cons.mpr (Or.inr h))) (hb w))
theorem goodIn_sub {big ws : List Cond} (hm : ∀ w ∈ ws, w ∈ big) (h : ws.all goodWord = true) : GoodIn big ws := fun w hw => ⟨hm w hw, good_of_word (List.all_eq_true.mp h w hw)⟩
/-! ===== END ===== -/

/-! ===== BEGIN printed: names, fields, word lists, decode rows ===== -/
def RX0 : String := "CloseClocks$Clocks"
def TX0 : u_T := fun k => match k with
  | 0 => ("CloseClocks$Clocks", "shape", "LCloseClocks$Net;", true)
  | 1 => ("CloseClocks$Clocks", "past", "[I", true)
  | 2 => ("CloseClocks$Clocks", "rates", "[I", true)
  | 3 => ("CloseClocks$Clocks", "fast", "[I", true)
  | 4 => ("CloseClocks$Clocks", "fastTicks", "[I", true)
  | 5 => ("CloseClocks$Clocks", "delays", "[I", true)
  | 6 => ("CloseClocks$Clocks", "errors", "[I", true)
  | 7 => ("CloseClocks$Clocks", "ticks", "I", false)
  | 8 => ("CloseClocks$Clocks", "greatestLocal", "I", false)
  | 9 => ("CloseClocks$Clocks", "ahead", "I", false)
  | _ => ("CloseClocks$Clocks", "behind", "I", false)
def tyX0 : Nat → FieldType := fun k => match k with
  | 0 => .object "CloseClocks$Net"
  | 1 => .array .int
  | 2 => .array .int
  | 3 => .array .int
  | 4 => .array .int
  | 5 => .array .int
  | 6 => .array .int
  | 7 => .int
  | 8 => .int
  | 9 => .int
  | _ => .int
abbrev wsX00 : List Cond := u_ws RX0 TX0 11
theorem nmX0 : ∀ a, a < 11 → ∀ b, b < 11 → a ≠ b → (TX0 a).2.1 ≠ (TX0 b).2.1 := by decide +kernel
theorem tyX0_ok : ∀ k, k < 11 → parseFieldDescriptor (TX0 k).2.2.1 = some (tyX0 k) := by decide +kernel
abbrev cX0_init : ByteArray := prog_2_method_1_code
def yX0_init : MethodName := ⟨RX0, "<init>", "(LCloseClocks$Net;)V"⟩
abbrev cX0_startFrom : ByteArray := prog_2_method_2_code
def yX0_startFrom : MethodName := ⟨RX0, "startFrom", "(LCloseClocks$Page;)V"⟩
abbrev cX0_copyAll : ByteArray := prog_2_method_3_code
def yX0_copyAll : MethodName := ⟨RX0, "copyAll", "(LCloseClocks$Clocks;)V"⟩
abbrev cX0_copyMotion : ByteArray := prog_2_method_4_code
def yX0_copyMotion : MethodName := ⟨RX0, "copyMotion", "(LCloseClocks$Clocks;)V"⟩
abbrev cX0_tellRates : ByteArray := prog_2_method_5_code
def yX0_tellRates : MethodName := ⟨RX0, "tellRates", "(I)V"⟩
abbrev cX0_tellDelay : ByteArray := prog_2_method_6_code
def yX0_tellDelay : MethodName := ⟨RX0, "tellDelay", "(III)V"⟩
abbrev cX0_tellClock : ByteArray := prog_2_method_7_code
def yX0_tellClock : MethodName := ⟨RX0, "tellClock", "(II)V"⟩
abbrev cX0_clockOf : ByteArray := prog_2_method_8_code
def yX0_clockOf : MethodName := ⟨RX0, "clockOf", "(I)I"⟩
abbrev cX0_guess : ByteArray := prog_2_method_9_code
def yX0_guess : MethodName := ⟨RX0, "guess", "(II)I"⟩
abbrev cX0_aheadOf : ByteArray := prog_2_method_10_code
def yX0_aheadOf : MethodName := ⟨RX0, "aheadOf", "(I)I"⟩
abbrev cX0_behindOf : ByteArray := prog_2_method_11_code
def yX0_behindOf : MethodName := ⟨RX0, "behindOf", "(I)I"⟩
abbrev cX0_leastUp : ByteArray := prog_2_method_12_code
def yX0_leastUp : MethodName := ⟨RX0, "leastUp", "(II)I"⟩
abbrev cX0_leastDown : ByteArray := prog_2_method_13_code
def yX0_leastDown : MethodName := ⟨RX0, "leastDown", "(II)I"⟩
abbrev cX0_compareGuesses : ByteArray := prog_2_method_14_code
def yX0_compareGuesses : MethodName := ⟨RX0, "compareGuesses", "(I)V"⟩
abbrev cX0_upLevel : ByteArray := prog_2_method_15_code
def yX0_upLevel : MethodName := ⟨RX0, "upLevel", "(I)I"⟩
abbrev cX0_downLevel : ByteArray := prog_2_method_16_code
def yX0_downLevel : MethodName := ⟨RX0, "downLevel", "(I)I"⟩
abbrev cX0_tick : ByteArray := prog_2_method_17_code
def yX0_tick : MethodName := ⟨RX0, "tick", "(II)V"⟩
abbrev cX0_move : ByteArray := prog_2_method_18_code
def yX0_move : MethodName := ⟨RX0, "move", "(II)V"⟩
abbrev cX0_skewOf : ByteArray := prog_2_method_19_code
def yX0_skewOf : MethodName := ⟨RX0, "skewOf", "(II)I"⟩
abbrev cX0_localSkew : ByteArray := prog_2_method_20_code
def yX0_localSkew : MethodName := ⟨RX0, "localSkew", "()I"⟩
abbrev cX0_globalSkew : ByteArray := prog_2_method_21_code
def yX0_globalSkew : MethodName := ⟨RX0, "globalSkew", "()I"⟩
abbrev cX0_skewByHops : ByteArray := prog_2_method_22_code
def yX0_skewByHops : MethodName := ⟨RX0, "skewByHops", "(I)I"⟩
abbrev cX0_howManyFast : ByteArray := prog_2_method_23_code
def yX0_howManyFast : MethodName := ⟨RX0, "howManyFast", "()I"⟩
def RX1 : String := "CloseClocks$Net"
def TX1 : u_T := fun k => match k with
  | 0 => ("CloseClocks$Net", "degrees", "[I", true)
  | 1 => ("CloseClocks$Net", "neighbours", "[I", true)
  | 2 => ("CloseClocks$Net", "ways", "[I", true)
  | 3 => ("CloseClocks$Net", "nodes", "I", false)
  | _ => ("CloseClocks$Net", "links", "I", false)
def tyX1 : Nat → FieldType := fun k => match k with
  | 0 => .array .int
  | 1 => .array .int
  | 2 => .array .int
  | 3 => .int
  | _ => .int
abbrev wsX10 : List Cond := u_ws RX1 TX1 5
theorem nmX1 : ∀ a, a < 5 → ∀ b, b < 5 → a ≠ b → (TX1 a).2.1 ≠ (TX1 b).2.1 := by decide +kernel
theorem tyX1_ok : ∀ k, k < 5 → parseFieldDescriptor (TX1 k).2.2.1 = some (tyX1 k) := by decide +kernel
abbrev cX1_init : ByteArray := prog_3_method_1_code
def yX1_init : MethodName := ⟨RX1, "<init>", "()V"⟩
abbrev cX1_isRead : ByteArray := prog_3_method_2_code
def yX1_isRead : MethodName := ⟨RX1, "isRead", "()Z"⟩
abbrev cX1_hasNode : ByteArray := prog_3_method_3_code
def yX1_hasNode : MethodName := ⟨RX1, "hasNode", "(I)Z"⟩
abbrev cX1_hasLink : ByteArray := prog_3_method_4_code
def yX1_hasLink : MethodName := ⟨RX1, "hasLink", "(II)Z"⟩
abbrev cX1_hopsOf : ByteArray := prog_3_method_5_code
def yX1_hopsOf : MethodName := ⟨RX1, "hopsOf", "(II)I"⟩
abbrev cX1_neighbourOf : ByteArray := prog_3_method_6_code
def yX1_neighbourOf : MethodName := ⟨RX1, "neighbourOf", "(II)I"⟩
abbrev cX1_readFrom : ByteArray := prog_3_method_7_code
def yX1_readFrom : MethodName := ⟨RX1, "readFrom", "(LCloseClocks$Page;)V"⟩
abbrev cX1_join : ByteArray := prog_3_method_8_code
def yX1_join : MethodName := ⟨RX1, "join", "(II)V"⟩
abbrev cX1_addNeighbour : ByteArray := prog_3_method_9_code
def yX1_addNeighbour : MethodName := ⟨RX1, "addNeighbour", "(II)V"⟩
abbrev cX1_shortenWays : ByteArray := prog_3_method_10_code
def yX1_shortenWays : MethodName := ⟨RX1, "shortenWays", "()V"⟩
def RX2 : String := "CloseClocks$Page"
def TX2 : u_T := fun k => match k with
  | 0 => ("CloseClocks$Page", "letters", "[I", true)
  | _ => ("CloseClocks$Page", "length", "I", false)
def tyX2 : Nat → FieldType := fun k => match k with
  | 0 => .array .int
  | _ => .int
abbrev wsX20 : List Cond := u_ws RX2 TX2 2
theorem nmX2 : ∀ a, a < 2 → ∀ b, b < 2 → a ≠ b → (TX2 a).2.1 ≠ (TX2 b).2.1 := by decide +kernel
theorem tyX2_ok : ∀ k, k < 2 → parseFieldDescriptor (TX2 k).2.2.1 = some (tyX2 k) := by decide +kernel
abbrev cX2_init : ByteArray := prog_4_method_1_code
def yX2_init : MethodName := ⟨RX2, "<init>", "()V"⟩
abbrev cX2_isFull : ByteArray := prog_4_method_2_code
def yX2_isFull : MethodName := ⟨RX2, "isFull", "()Z"⟩
abbrev cX2_append : ByteArray := prog_4_method_3_code
def yX2_append : MethodName := ⟨RX2, "append", "(I)I"⟩
abbrev cX2_empty : ByteArray := prog_4_method_4_code
def yX2_empty : MethodName := ⟨RX2, "empty", "()I"⟩
abbrev cX2_letterAt : ByteArray := prog_4_method_5_code
def yX2_letterAt : MethodName := ⟨RX2, "letterAt", "(I)I"⟩
abbrev cX2_digitAt : ByteArray := prog_4_method_6_code
def yX2_digitAt : MethodName := ⟨RX2, "digitAt", "(I)I"⟩
abbrev cX2_firstFault : ByteArray := prog_4_method_7_code
def yX2_firstFault : MethodName := ⟨RX2, "firstFault", "()I"⟩
abbrev cX2_isNet : ByteArray := prog_4_method_8_code
def yX2_isNet : MethodName := ⟨RX2, "isNet", "()Z"⟩
abbrev cX2_howManyLinks : ByteArray := prog_4_method_9_code
def yX2_howManyLinks : MethodName := ⟨RX2, "howManyLinks", "()I"⟩
abbrev cX2_placeOfLink : ByteArray := prog_4_method_10_code
def yX2_placeOfLink : MethodName := ⟨RX2, "placeOfLink", "(I)I"⟩
abbrev cX2_fitsAt : ByteArray := prog_4_method_11_code
def yX2_fitsAt : MethodName := ⟨RX2, "fitsAt", "(I)Z"⟩
abbrev cX2_isNode : ByteArray := prog_4_method_12_code
def yX2_isNode : MethodName := ⟨RX2, "isNode", "(I)Z"⟩
abbrev cX2_isNewLink : ByteArray := prog_4_method_13_code
def yX2_isNewLink : MethodName := ⟨RX2, "isNewLink", "(I)Z"⟩
def RX3 : String := "CloseClocks"
def TX3 : u_T := fun k => match k with
  | 0 => ("CloseClocks", "page", "LCloseClocks$Page;", true)
  | 1 => ("CloseClocks", "shape", "LCloseClocks$Net;", true)
  | 2 => ("CloseClocks", "now", "LCloseClocks$Clocks;", true)
  | 3 => ("CloseClocks", "kept", "LCloseClocks$Clocks;", true)
  | 4 => ("CloseClocks", "trial", "LCloseClocks$Clocks;", true)
  | 5 => ("CloseClocks", "imageKept", "Z", false)
  | 6 => ("CloseClocks", "step", "I", false)
  | 7 => ("CloseClocks", "boost", "I", false)
  | 8 => ("CloseClocks", "netsRead", "I", false)
  | _ => ("CloseClocks", "ticksEver", "I", false)
def tyX3 : Nat → FieldType := fun k => match k with
  | 0 => .object "CloseClocks$Page"
  | 1 => .object "CloseClocks$Net"
  | 2 => .object "CloseClocks$Clocks"
  | 3 => .object "CloseClocks$Clocks"
  | 4 => .object "CloseClocks$Clocks"
  | 5 => .boolean
  | 6 => .int
  | 7 => .int
  | 8 => .int
  | _ => .int
abbrev wsX30 : List Cond := u_ws RX3 TX3 10
theorem nmX3 : ∀ a, a < 10 → ∀ b, b < 10 → a ≠ b → (TX3 a).2.1 ≠ (TX3 b).2.1 := by decide +kernel
theorem tyX3_ok : ∀ k, k < 10 → parseFieldDescriptor (TX3 k).2.2.1 = some (tyX3 k) := by decide +kernel
abbrev cX3_init : ByteArray := prog_1_method_1_code
def yX3_init : MethodName := ⟨RX3, "<init>", "()V"⟩
abbrev cX3_letter : ByteArray := prog_1_method_2_code
def yX3_letter : MethodName := ⟨RX3, "letter", "(I)I"⟩
abbrev cX3_blank : ByteArray := prog_1_method_3_code
def yX3_blank : MethodName := ⟨RX3, "blank", "()I"⟩
abbrev cX3_fault : ByteArray := prog_1_method_4_code
def yX3_fault : MethodName := ⟨RX3, "fault", "()I"⟩
abbrev cX3_net : ByteArray := prog_1_method_5_code
def yX3_net : MethodName := ⟨RX3, "net", "()I"⟩
abbrev cX3_set : ByteArray := prog_1_method_6_code
def yX3_set : MethodName := ⟨RX3, "set", "(II)I"⟩
abbrev cX3_rate : ByteArray := prog_1_method_7_code
def yX3_rate : MethodName := ⟨RX3, "rate", "(II)I"⟩
abbrev cX3_put : ByteArray := prog_1_method_8_code
def yX3_put : MethodName := ⟨RX3, "put", "(II)I"⟩
abbrev cX3_wrong : ByteArray := prog_1_method_9_code
def yX3_wrong : MethodName := ⟨RX3, "wrong", "(III)I"⟩
abbrev cX3_delay : ByteArray := prog_1_method_10_code
def yX3_delay : MethodName := ⟨RX3, "delay", "(III)I"⟩
abbrev cX3_go : ByteArray := prog_1_method_11_code
def yX3_go : MethodName := ⟨RX3, "go", "(I)I"⟩
abbrev cX3_node : ByteArray := prog_1_method_12_code
def yX3_node : MethodName := ⟨RX3, "node", "(II)I"⟩
abbrev cX3_link : ByteArray := prog_1_method_13_code
def yX3_link : MethodName := ⟨RX3, "link", "(III)I"⟩
abbrev cX3_hops : ByteArray := prog_1_method_14_code
def yX3_hops : MethodName := ⟨RX3, "hops", "(II)I"⟩
abbrev cX3_skew : ByteArray := prog_1_method_15_code
def yX3_skew : MethodName := ⟨RX3, "skew", "(I)I"⟩
abbrev cX3_spread : ByteArray := prog_1_method_16_code
def yX3_spread : MethodName := ⟨RX3, "spread", "(I)I"⟩
abbrev cX3_worst : ByteArray := prog_1_method_17_code
def yX3_worst : MethodName := ⟨RX3, "worst", "(II)I"⟩
abbrev cX3_image : ByteArray := prog_1_method_18_code
def yX3_image : MethodName := ⟨RX3, "image", "()I"⟩
abbrev cX3_restore : ByteArray := prog_1_method_19_code
def yX3_restore : MethodName := ⟨RX3, "restore", "()I"⟩
abbrev cX3_count : ByteArray := prog_1_method_20_code
def yX3_count : MethodName := ⟨RX3, "count", "(I)I"⟩
abbrev cX3_digest : ByteArray := prog_1_method_21_code
def yX3_digest : MethodName := ⟨RX3, "digest", "()J"⟩
abbrev cX3_mixNodes : ByteArray := prog_1_method_22_code
def yX3_mixNodes : MethodName := ⟨RX3, "mixNodes", "(J)J"⟩
abbrev cX3_mixLinks : ByteArray := prog_1_method_23_code
def yX3_mixLinks : MethodName := ⟨RX3, "mixLinks", "(J)J"⟩
abbrev cX3_mixLink : ByteArray := prog_1_method_24_code
def yX3_mixLink : MethodName := ⟨RX3, "mixLink", "(JII)J"⟩
abbrev cX3_mixSkews : ByteArray := prog_1_method_25_code
def yX3_mixSkews : MethodName := ⟨RX3, "mixSkews", "(J)J"⟩
abbrev cX3_mix : ByteArray := prog_1_method_26_code
def yX3_mix : MethodName := ⟨RX3, "mix", "(JI)J"⟩
abbrev cX3_searchWorst : ByteArray := prog_1_method_27_code
def yX3_searchWorst : MethodName := ⟨RX3, "searchWorst", "(I)J"⟩
abbrev cX3_skewOfWorst : ByteArray := prog_1_method_28_code
def yX3_skewOfWorst : MethodName := ⟨RX3, "skewOfWorst", "(J)I"⟩
abbrev cX3_nodesOfWorst : ByteArray := prog_1_method_29_code
def yX3_nodesOfWorst : MethodName := ⟨RX3, "nodesOfWorst", "(J)I"⟩
abbrev cX3_cell : ByteArray := prog_1_method_30_code
def yX3_cell : MethodName := ⟨RX3, "cell", "(II)I"⟩
abbrev cX3_levelReaching : ByteArray := prog_1_method_31_code
def yX3_levelReaching : MethodName := ⟨RX3, "levelReaching", "(II)I"⟩
abbrev cX3_dividedUp : ByteArray := prog_1_method_32_code
def yX3_dividedUp : MethodName := ⟨RX3, "dividedUp", "(II)I"⟩
def RX4 : String := "CloseClocksModel"
def TX4 : u_T := fun k => match k with
  | 0 => ("CloseClocksModel", "pageLength", "I", false)
  | 1 => ("CloseClocksModel", "page", "[I", true)
  | 2 => ("CloseClocksModel", "nodes", "I", false)
  | 3 => ("CloseClocksModel", "links", "I", false)
  | 4 => ("CloseClocksModel", "delayOf", "[I", true)
  | 5 => ("CloseClocksModel", "errorOf", "[I", true)
  | 6 => ("CloseClocksModel", "rateOf", "[I", true)
  | 7 => ("CloseClocksModel", "clockAt", "[I", true)
  | 8 => ("CloseClocksModel", "isFast", "[Z", true)
  | 9 => ("CloseClocksModel", "fastTicks", "[I", true)
  | 10 => ("CloseClocksModel", "step", "I", false)
  | 11 => ("CloseClocksModel", "boost", "I", false)
  | 12 => ("CloseClocksModel", "ticks", "I", false)
  | 13 => ("CloseClocksModel", "ticksEver", "I", false)
  | 14 => ("CloseClocksModel", "netsRead", "I", false)
  | 15 => ("CloseClocksModel", "mostLocal", "I", false)
  | 16 => ("CloseClocksModel", "newNodes", "I", false)
  | 17 => ("CloseClocksModel", "newLinks", "I", false)
  | 18 => ("CloseClocksModel", "due", "I", false)
  | 19 => ("CloseClocksModel", "newOne", "I", false)
  | 20 => ("CloseClocksModel", "newOther", "I", false)
  | 21 => ("CloseClocksModel", "newDelays", "[I", true)
  | 22 => ("CloseClocksModel", "turnOf", "[I", true)
  | 23 => ("CloseClocksModel", "triedClocks", "[I", true)
  | 24 => ("CloseClocksModel", "triedRates", "[I", true)
  | 25 => ("CloseClocksModel", "triedFast", "[Z", true)
  | 26 => ("CloseClocksModel", "triedTicks", "[I", true)
  | 27 => ("CloseClocksModel", "worstMost", "I", false)
  | 28 => ("CloseClocksModel", "worstBy", "I", false)
  | 29 => ("CloseClocksModel", "isKept", "Z", false)
  | 30 => ("CloseClocksModel", "keptClocks", "[I", true)
  | 31 => ("CloseClocksModel", "keptRates", "[I", true)
  | 32 => ("CloseClocksModel", "keptErrors", "[I", true)
  | 33 => ("CloseClocksModel", "keptDelays", "[I", true)
  | 34 => ("CloseClocksModel", "keptFast", "[Z", true)
  | 35 => ("CloseClocksModel", "keptFastTicks", "[I", true)
  | 36 => ("CloseClocksModel", "keptTicks", "I", false)
  | 37 => ("CloseClocksModel", "keptLocal", "I", false)
  | _ => ("CloseClocksModel", "h", "J", false)
def tyX4 : Nat → FieldType := fun k => match k with
  | 0 => .int
  | 1 => .array .int
  | 2 => .int
  | 3 => .int
  | 4 => .array .int
  | 5 => .array .int
  | 6 => .array .int
  | 7 => .array .int
  | 8 => .array .boolean
  | 9 => .array .int
  | 10 => .int
  | 11 => .int
  | 12 => .int
  | 13 => .int
  | 14 => .int
  | 15 => .int
  | 16 => .int
  | 17 => .int
  | 18 => .int
  | 19 => .int
  | 20 => .int
  | 21 => .array .int
  | 22 => .array .int
  | 23 => .array .int
  | 24 => .array .int
  | 25 => .array .boolean
  | 26 => .array .int
  | 27 => .int
  | 28 => .int
  | 29 => .boolean
  | 30 => .array .int
  | 31 => .array .int
  | 32 => .array .int
  | 33 => .array .int
  | 34 => .array .boolean
  | 35 => .array .int
  | 36 => .int
  | 37 => .int
  | _ => .long
abbrev wsX40 : List Cond := u_ws RX4 TX4 39
theorem nmX4 : ∀ a, a < 39 → ∀ b, b < 39 → a ≠ b → (TX4 a).2.1 ≠ (TX4 b).2.1 := by decide +kernel
theorem tyX4_ok : ∀ k, k < 39 → parseFieldDescriptor (TX4 k).2.2.1 = some (tyX4 k) := by decide +kernel
abbrev cX4_init : ByteArray := prog_6_method_1_code
def yX4_init : MethodName := ⟨RX4, "<init>", "()V"⟩
abbrev cX4_within : ByteArray := prog_6_method_3_code
def yX4_within : MethodName := ⟨RX4, "within", "(III)Z"⟩
abbrev cX4_letter : ByteArray := prog_6_method_4_code
def yX4_letter : MethodName := ⟨RX4, "letter", "(I)I"⟩
abbrev cX4_blank : ByteArray := prog_6_method_5_code
def yX4_blank : MethodName := ⟨RX4, "blank", "()I"⟩
abbrev cX4_takesDigit : ByteArray := prog_6_method_6_code
def yX4_takesDigit : MethodName := ⟨RX4, "takesDigit", "(I)Z"⟩
abbrev cX4_takes : ByteArray := prog_6_method_7_code
def yX4_takes : MethodName := ⟨RX4, "takes", "(I)Z"⟩
abbrev cX4_goAlong : ByteArray := prog_6_method_8_code
def yX4_goAlong : MethodName := ⟨RX4, "goAlong", "()I"⟩
abbrev cX4_fault : ByteArray := prog_6_method_9_code
def yX4_fault : MethodName := ⟨RX4, "fault", "()I"⟩
abbrev cX4_net : ByteArray := prog_6_method_10_code
def yX4_net : MethodName := ⟨RX4, "net", "()I"⟩
abbrev cX4_isNode : ByteArray := prog_6_method_11_code
def yX4_isNode : MethodName := ⟨RX4, "isNode", "(I)Z"⟩
abbrev cX4_areBeside : ByteArray := prog_6_method_12_code
def yX4_areBeside : MethodName := ⟨RX4, "areBeside", "(II)Z"⟩
abbrev cX4_setClock : ByteArray := prog_6_method_13_code
def yX4_setClock : MethodName := ⟨RX4, "setClock", "(II)V"⟩
abbrev cX4_set : ByteArray := prog_6_method_14_code
def yX4_set : MethodName := ⟨RX4, "set", "(II)I"⟩
abbrev cX4_rate : ByteArray := prog_6_method_15_code
def yX4_rate : MethodName := ⟨RX4, "rate", "(II)I"⟩
abbrev cX4_put : ByteArray := prog_6_method_16_code
def yX4_put : MethodName := ⟨RX4, "put", "(II)I"⟩
abbrev cX4_wrong : ByteArray := prog_6_method_17_code
def yX4_wrong : MethodName := ⟨RX4, "wrong", "(III)I"⟩
abbrev cX4_delay : ByteArray := prog_6_method_18_code
def yX4_delay : MethodName := ⟨RX4, "delay", "(III)I"⟩
abbrev cX4_guess : ByteArray := prog_6_method_19_code
def yX4_guess : MethodName := ⟨RX4, "guess", "(II)I"⟩
abbrev cX4_off : ByteArray := prog_6_method_20_code
def yX4_off : MethodName := ⟨RX4, "off", "(IZ)I"⟩
abbrev cX4_firstOf : ByteArray := prog_6_method_21_code
def yX4_firstOf : MethodName := ⟨RX4, "firstOf", "(II)I"⟩
abbrev cX4_trigger : ByteArray := prog_6_method_22_code
def yX4_trigger : MethodName := ⟨RX4, "trigger", "(III)I"⟩
abbrev cX4_upOf : ByteArray := prog_6_method_23_code
def yX4_upOf : MethodName := ⟨RX4, "upOf", "(I)I"⟩
abbrev cX4_downOf : ByteArray := prog_6_method_24_code
def yX4_downOf : MethodName := ⟨RX4, "downOf", "(I)I"⟩
abbrev cX4_tick : ByteArray := prog_6_method_25_code
def yX4_tick : MethodName := ⟨RX4, "tick", "()V"⟩
abbrev cX4_go : ByteArray := prog_6_method_26_code
def yX4_go : MethodName := ⟨RX4, "go", "(I)I"⟩
abbrev cX4_skewOf : ByteArray := prog_6_method_27_code
def yX4_skewOf : MethodName := ⟨RX4, "skewOf", "(II)I"⟩
abbrev cX4_local : ByteArray := prog_6_method_28_code
def yX4_local : MethodName := ⟨RX4, "local", "()I"⟩
abbrev cX4_global : ByteArray := prog_6_method_29_code
def yX4_global : MethodName := ⟨RX4, "global", "()I"⟩
abbrev cX4_levelNow : ByteArray := prog_6_method_30_code
def yX4_levelNow : MethodName := ⟨RX4, "levelNow", "()I"⟩
abbrev cX4_hopsNow : ByteArray := prog_6_method_31_code
def yX4_hopsNow : MethodName := ⟨RX4, "hopsNow", "(II)I"⟩
abbrev cX4_hops : ByteArray := prog_6_method_32_code
def yX4_hops : MethodName := ⟨RX4, "hops", "(II)I"⟩
abbrev cX4_skewNow : ByteArray := prog_6_method_33_code
def yX4_skewNow : MethodName := ⟨RX4, "skewNow", "(I)I"⟩
abbrev cX4_skew : ByteArray := prog_6_method_34_code
def yX4_skew : MethodName := ⟨RX4, "skew", "(I)I"⟩
abbrev cX4_spreadNow : ByteArray := prog_6_method_35_code
def yX4_spreadNow : MethodName := ⟨RX4, "spreadNow", "(I)I"⟩
abbrev cX4_spread : ByteArray := prog_6_method_36_code
def yX4_spread : MethodName := ⟨RX4, "spread", "(I)I"⟩
abbrev cX4_setAside : ByteArray := prog_6_method_37_code
def yX4_setAside : MethodName := ⟨RX4, "setAside", "()V"⟩
abbrev cX4_setBack : ByteArray := prog_6_method_38_code
def yX4_setBack : MethodName := ⟨RX4, "setBack", "()V"⟩
abbrev cX4_layWorst : ByteArray := prog_6_method_39_code
def yX4_layWorst : MethodName := ⟨RX4, "layWorst", "(I)V"⟩
abbrev cX4_worstNow : ByteArray := prog_6_method_40_code
def yX4_worstNow : MethodName := ⟨RX4, "worstNow", "(II)I"⟩
abbrev cX4_worst : ByteArray := prog_6_method_41_code
def yX4_worst : MethodName := ⟨RX4, "worst", "(II)I"⟩
abbrev cX4_besideOf : ByteArray := prog_6_method_42_code
def yX4_besideOf : MethodName := ⟨RX4, "besideOf", "(I)I"⟩
abbrev cX4_nodeNow : ByteArray := prog_6_method_43_code
def yX4_nodeNow : MethodName := ⟨RX4, "nodeNow", "(II)I"⟩
abbrev cX4_node : ByteArray := prog_6_method_44_code
def yX4_node : MethodName := ⟨RX4, "node", "(II)I"⟩
abbrev cX4_linkNow : ByteArray := prog_6_method_45_code
def yX4_linkNow : MethodName := ⟨RX4, "linkNow", "(III)I"⟩
abbrev cX4_link : ByteArray := prog_6_method_46_code
def yX4_link : MethodName := ⟨RX4, "link", "(III)I"⟩
abbrev cX4_image : ByteArray := prog_6_method_47_code
def yX4_image : MethodName := ⟨RX4, "image", "()I"⟩
abbrev cX4_restore : ByteArray := prog_6_method_48_code
def yX4_restore : MethodName := ⟨RX4, "restore", "()I"⟩
abbrev cX4_fastMany : ByteArray := prog_6_method_49_code
def yX4_fastMany : MethodName := ⟨RX4, "fastMany", "()I"⟩
abbrev cX4_howMany : ByteArray := prog_6_method_50_code
def yX4_howMany : MethodName := ⟨RX4, "howMany", "(I)I"⟩
abbrev cX4_count : ByteArray := prog_6_method_51_code
def yX4_count : MethodName := ⟨RX4, "count", "(I)I"⟩
abbrev cX4_mix : ByteArray := prog_6_method_52_code
def yX4_mix : MethodName := ⟨RX4, "mix", "(J)V"⟩
abbrev cX4_mixLinks : ByteArray := prog_6_method_53_code
def yX4_mixLinks : MethodName := ⟨RX4, "mixLinks", "()V"⟩
abbrev cX4_mixSkews : ByteArray := prog_6_method_54_code
def yX4_mixSkews : MethodName := ⟨RX4, "mixSkews", "()V"⟩
abbrev cX4_digest : ByteArray := prog_6_method_55_code
def yX4_digest : MethodName := ⟨RX4, "digest", "()J"⟩
def RJ9 : String := "java/lang/Math"
def TJ9 : u_T := fun k => match k with
  | _ => ("", "", "", false)
def tyJ9 : Nat → FieldType := fun k => match k with
  | _ => .int
abbrev wsJ90 : List Cond := u_ws RJ9 TJ9 0
theorem nmJ9 : ∀ a, a < 0 → ∀ b, b < 0 → a ≠ b → (TJ9 a).2.1 ≠ (TJ9 b).2.1 := by decide +kernel
theorem tyJ9_ok : ∀ k, k < 0 → parseFieldDescriptor (TJ9 k).2.2.1 = some (tyJ9 k) := by decide +kernel
abbrev cJ9_abs_0f7a4 : ByteArray := prog_7_method_59_code
def yJ9_abs_0f7a4 : MethodName := ⟨RJ9, "abs", "(I)I"⟩
abbrev cJ9_max_7cf53 : ByteArray := prog_7_method_65_code
def yJ9_max_7cf53 : MethodName := ⟨RJ9, "max", "(II)I"⟩
abbrev cJ9_min_7cf53 : ByteArray := prog_7_method_69_code
def yJ9_min_7cf53 : MethodName := ⟨RJ9, "min", "(II)I"⟩
def RJ10 : String := "java/lang/System"
def TJ10 : u_T := fun k => match k with
  | _ => ("", "", "", false)
def tyJ10 : Nat → FieldType := fun k => match k with
  | _ => .int
abbrev wsJ100 : List Cond := u_ws RJ10 TJ10 0
theorem nmJ10 : ∀ a, a < 0 → ∀ b, b < 0 → a ≠ b → (TJ10 a).2.1 ≠ (TJ10 b).2.1 := by decide +kernel
theorem tyJ10_ok : ∀ k, k < 0 → parseFieldDescriptor (TJ10 k).2.2.1 = some (tyJ10 k) := by decide +kernel
def RJ7 : String := "java/util/Arrays"
def TJ7 : u_T := fun k => match k with
  | _ => ("", "", "", false)
def tyJ7 : Nat → FieldType := fun k => match k with
  | _ => .int
abbrev wsJ70 : List Cond := u_ws RJ7 TJ7 0
theorem nmJ7 : ∀ a, a < 0 → ∀ b, b < 0 → a ≠ b → (TJ7 a).2.1 ≠ (TJ7 b).2.1 := by decide +kernel
theorem tyJ7_ok : ∀ k, k < 0 → parseFieldDescriptor (TJ7 k).2.2.1 = some (tyJ7 k) := by decide +kernel
abbrev cJ7_fill_53178 : ByteArray := prog_9_method_103_code
def yJ7_fill_53178 : MethodName := ⟨RJ7, "fill", "([II)V"⟩
def RL : String := "CloseClocksLaw"
abbrev cL_law : ByteArray := code
def yL_law : MethodName := ⟨RL, "law", "([I)Z"⟩
def wsX0_init : List Cond := .code yX0_init cX0_init 2 none :: ([.methodLink RX0 3 objectInit, .instanceMethod objectInit, .code objectInit ⟨#[0xb1]⟩ 1 none, .arrayClass .int, .fieldLink RX0 9 "CloseClocks$Clocks" "past" "[I", .fieldLink RX0 15 "CloseClocks$Clocks" "rates" "[I", .fieldLink RX0 18 "CloseClocks$Clocks" "fast" "[I", .fieldLink RX0 21 "CloseClocks$Clocks" "fastTicks" "[I", .fieldLink RX0 24 "CloseClocks$Clocks" "delays" "[I", .fieldLink RX0 27 "CloseClocks$Clocks" "errors" "[I", .fieldLink RX0 30 "CloseClocks$Clocks" "ticks" "I", .fieldLink RX0 34 "CloseClocks$Clocks" "greatestLocal" "I", .constant RX0 37 (-100000001), .fieldLink RX0 38 "CloseClocks$Clocks" "ahead" "I", .fieldLink RX0 41 "CloseClocks$Clocks" "behind" "I", .fieldLink RX0 44 "CloseClocks$Clocks" "shape" "LCloseClocks$Net;"] ++ wsX00)
def wsJ7_fill_53178 : List Cond := .code yJ7_fill_53178 cJ7_fill_53178 4 none :: ([])
def wsX2_placeOfLink : List Cond := .code yX2_placeOfLink cX2_placeOfLink 1 (some .int) :: ([])
def wsX2_letterAt : List Cond := .code yX2_letterAt cX2_letterAt 2 (some .int) :: ([.fieldLink RX2 15 "CloseClocks$Page" "length" "I", .fieldLink RX2 9 "CloseClocks$Page" "letters" "[I", .constant RX2 19 (-100000001)] ++ wsX20)
def wsX2_digitAt : List Cond := .code yX2_digitAt cX2_digitAt 2 (some .int) :: ([.methodLink RX2 20 yX2_letterAt, .instanceMethod yX2_letterAt, .selects RX2 yX2_letterAt yX2_letterAt, .initialized RX2, .code yX2_letterAt cX2_letterAt 2 (some .int), .fieldLink RX2 15 "CloseClocks$Page" "length" "I", .fieldLink RX2 9 "CloseClocks$Page" "letters" "[I", .constant RX2 19 (-100000001)] ++ wsX20)
def wsX1_hasNode : List Cond := .code yX1_hasNode cX1_hasNode 2 (some .boolean) :: ([.fieldLink RX1 21 "CloseClocks$Net" "nodes" "I"] ++ wsX10)
def wsX3_cell : List Cond := .code yX3_cell cX3_cell 2 (some .int) :: ([])
def wsX1_hasLink : List Cond := .code yX1_hasLink cX1_hasLink 3 (some .boolean) :: ([.fieldLink RX1 18 "CloseClocks$Net" "ways" "[I", .methodLink RX1 28 yX1_hasNode, .instanceMethod yX1_hasNode, .selects RX1 yX1_hasNode yX1_hasNode, .initialized RX1, .code yX1_hasNode cX1_hasNode 2 (some .boolean), .fieldLink RX1 21 "CloseClocks$Net" "nodes" "I", .static yX3_cell, .initialized RX3, .code yX3_cell cX3_cell 2 (some .int)] ++ wsX10)
def wsX0_tellDelay : List Cond := .code yX0_tellDelay cX0_tellDelay 4 none :: ([.fieldLink RX0 44 "CloseClocks$Clocks" "shape" "LCloseClocks$Net;", .fieldLink RX0 24 "CloseClocks$Clocks" "delays" "[I", .methodLink RX0 85 yX1_hasLink, .instanceMethod yX1_hasLink, .selects RX1 yX1_hasLink yX1_hasLink, .initialized RX1, .code yX1_hasLink cX1_hasLink 3 (some .boolean), .fieldLink RX1 18 "CloseClocks$Net" "ways" "[I", .methodLink RX1 28 yX1_hasNode, .instanceMethod yX1_hasNode, .selects RX1 yX1_hasNode yX1_hasNode, .code yX1_hasNode cX1_hasNode 2 (some .boolean), .fieldLink RX1 21 "CloseClocks$Net" "nodes" "I", .static yX3_cell, .initialized RX3, .code yX3_cell cX3_cell 2 (some .int)] ++ wsX00 ++ wsX10)
def wsX0_startFrom_r1 : List Cond := [Cond.fieldLink RX0 9 "CloseClocks$Clocks" "past" "[I", Cond.fieldLink RX0 15 "CloseClocks$Clocks" "rates" "[I", Cond.fieldLink RX0 18 "CloseClocks$Clocks" "fast" "[I", Cond.fieldLink RX0 21 "CloseClocks$Clocks" "fastTicks" "[I", Cond.fieldLink RX0 27 "CloseClocks$Clocks" "errors" "[I", Cond.fieldLink RX0 44 "CloseClocks$Clocks" "shape" "LCloseClocks$Net;", Cond.fieldLink RX0 30 "CloseClocks$Clocks" "ticks" "I", Cond.fieldLink RX0 34 "CloseClocks$Clocks" "greatestLocal" "I", Cond.methodLink RX0 48 yJ7_fill_53178, Cond.static yJ7_fill_53178, Cond.initialized RJ7, Cond.code yJ7_fill_53178 cJ7_fill_53178 4 none, Cond.methodLink RX0 59 yX2_placeOfLink, Cond.static yX2_placeOfLink, Cond.initialized RX2, Cond.code yX2_placeOfLink cX2_placeOfLink 1 (some .int), Cond.methodLink RX0 65 yX2_digitAt, Cond.instanceMethod yX2_digitAt, Cond.selects RX2 yX2_digitAt yX2_digitAt, Cond.code yX2_digitAt cX2_digitAt 2 (some .int), Cond.methodLink RX2 20 yX2_letterAt, Cond.instanceMethod yX2_letterAt, Cond.selects RX2 yX2_letterAt yX2_letterAt, Cond.code yX2_letterAt cX2_letterAt 2 (some .int)]
def wsX0_startFrom_r2 : List Cond := [Cond.fieldLink RX2 15 "CloseClocks$Page" "length" "I", Cond.fieldLink RX2 9 "CloseClocks$Page" "letters" "[I", Cond.constant RX2 19 (-100000001), Cond.methodLink RX0 68 yX0_tellDelay, Cond.instanceMethod yX0_tellDelay, Cond.selects RX0 yX0_tellDelay yX0_tellDelay, Cond.initialized RX0, Cond.code yX0_tellDelay cX0_tellDelay 4 none, Cond.fieldLink RX0 24 "CloseClocks$Clocks" "delays" "[I", Cond.methodLink RX0 85 yX1_hasLink, Cond.instanceMethod yX1_hasLink, Cond.selects RX1 yX1_hasLink yX1_hasLink, Cond.initialized RX1, Cond.code yX1_hasLink cX1_hasLink 3 (some .boolean), Cond.fieldLink RX1 18 "CloseClocks$Net" "ways" "[I", Cond.methodLink RX1 28 yX1_hasNode, Cond.instanceMethod yX1_hasNode, Cond.selects RX1 yX1_hasNode yX1_hasNode, Cond.code yX1_hasNode cX1_hasNode 2 (some .boolean), Cond.fieldLink RX1 21 "CloseClocks$Net" "nodes" "I", Cond.static yX3_cell, Cond.initialized RX3, Cond.code yX3_cell cX3_cell 2 (some .int)]
def wsX0_startFrom : List Cond := .code yX0_startFrom cX0_startFrom 4 none :: ((wsX0_startFrom_r1 ++ wsX0_startFrom_r2) ++ wsX00 ++ wsX10 ++ wsX20)
def wsX0_copyMotion : List Cond := .code yX0_copyMotion cX0_copyMotion 2 none :: ([.fieldLink RX0 9 "CloseClocks$Clocks" "past" "[I", .methodLink RX0 76 arraycopyName, .native arraycopyName, .static arraycopyName, .initialized "java/lang/System", .fieldLink RX0 18 "CloseClocks$Clocks" "fast" "[I"] ++ wsX00)
def wsX0_copyAll : List Cond := .code yX0_copyAll cX0_copyAll 2 none :: ([.fieldLink RX0 15 "CloseClocks$Clocks" "rates" "[I", .methodLink RX0 76 arraycopyName, .native arraycopyName, .static arraycopyName, .initialized "java/lang/System", .fieldLink RX0 21 "CloseClocks$Clocks" "fastTicks" "[I", .fieldLink RX0 24 "CloseClocks$Clocks" "delays" "[I", .fieldLink RX0 27 "CloseClocks$Clocks" "errors" "[I", .fieldLink RX0 30 "CloseClocks$Clocks" "ticks" "I", .fieldLink RX0 34 "CloseClocks$Clocks" "greatestLocal" "I", .methodLink RX0 72 yX0_copyMotion, .instanceMethod yX0_copyMotion, .selects RX0 yX0_copyMotion yX0_copyMotion, .initialized RX0, .code yX0_copyMotion cX0_copyMotion 2 none, .fieldLink RX0 9 "CloseClocks$Clocks" "past" "[I", .fieldLink RX0 18 "CloseClocks$Clocks" "fast" "[I"] ++ wsX00)
def wsX0_tellRates : List Cond := .code yX0_tellRates cX0_tellRates 3 none :: ([.fieldLink RX0 44 "CloseClocks$Clocks" "shape" "LCloseClocks$Net;", .fieldLink RX0 15 "CloseClocks$Clocks" "rates" "[I"] ++ wsX00 ++ wsX10)
def wsX0_tellClock : List Cond := .code yX0_tellClock cX0_tellClock 4 none :: ([.fieldLink RX0 9 "CloseClocks$Clocks" "past" "[I", .static yX3_cell, .initialized RX3, .code yX3_cell cX3_cell 2 (some .int)] ++ wsX00)
def wsX0_clockOf : List Cond := .code yX0_clockOf cX0_clockOf 2 (some .int) :: ([.fieldLink RX0 9 "CloseClocks$Clocks" "past" "[I"] ++ wsX00)
def wsX0_guess : List Cond := .code yX0_guess cX0_guess 5 (some .int) :: ([.fieldLink RX0 24 "CloseClocks$Clocks" "delays" "[I", .fieldLink RX0 9 "CloseClocks$Clocks" "past" "[I", .fieldLink RX0 27 "CloseClocks$Clocks" "errors" "[I", .static yX3_cell, .initialized RX3, .code yX3_cell cX3_cell 2 (some .int)] ++ wsX00)
def wsX1_neighbourOf : List Cond := .code yX1_neighbourOf cX1_neighbourOf 3 (some .int) :: ([.fieldLink RX1 15 "CloseClocks$Net" "neighbours" "[I", .static yX3_cell, .initialized RX3, .code yX3_cell cX3_cell 2 (some .int)] ++ wsX10)
def wsX0_compareGuesses_r1 : List Cond := [Cond.constant RX0 37 (-100000001), Cond.fieldLink RX0 44 "CloseClocks$Clocks" "shape" "LCloseClocks$Net;", Cond.methodLink RX0 115 Lib.Math.max.name, Cond.static Lib.Math.max.name, Cond.initialized "java/lang/Math", Cond.code Lib.Math.max.name Lib.Math.max.code 2 (some .int), Cond.fieldLink RX0 38 "CloseClocks$Clocks" "ahead" "I", Cond.fieldLink RX0 41 "CloseClocks$Clocks" "behind" "I", Cond.methodLink RX0 103 yX0_clockOf, Cond.instanceMethod yX0_clockOf, Cond.selects RX0 yX0_clockOf yX0_clockOf, Cond.initialized RX0, Cond.code yX0_clockOf cX0_clockOf 2 (some .int), Cond.fieldLink RX0 9 "CloseClocks$Clocks" "past" "[I", Cond.methodLink RX0 109 yX1_neighbourOf, Cond.instanceMethod yX1_neighbourOf, Cond.selects RX1 yX1_neighbourOf yX1_neighbourOf, Cond.initialized RX1, Cond.code yX1_neighbourOf cX1_neighbourOf 3 (some .int), Cond.fieldLink RX1 15 "CloseClocks$Net" "neighbours" "[I", Cond.static yX3_cell, Cond.initialized RX3, Cond.code yX3_cell cX3_cell 2 (some .int), Cond.methodLink RX0 112 yX0_guess]
def wsX0_compareGuesses_r2 : List Cond := [Cond.instanceMethod yX0_guess, Cond.selects RX0 yX0_guess yX0_guess, Cond.code yX0_guess cX0_guess 5 (some .int), Cond.fieldLink RX0 24 "CloseClocks$Clocks" "delays" "[I", Cond.fieldLink RX0 27 "CloseClocks$Clocks" "errors" "[I"]
def wsX0_compareGuesses : List Cond := .code yX0_compareGuesses cX0_compareGuesses 8 none :: ((wsX0_compareGuesses_r1 ++ wsX0_compareGuesses_r2) ++ wsX00 ++ wsX10)
def wsX0_aheadOf_r1 : List Cond := [Cond.fieldLink RX0 38 "CloseClocks$Clocks" "ahead" "I", Cond.methodLink RX0 93 yX0_compareGuesses, Cond.instanceMethod yX0_compareGuesses, Cond.selects RX0 yX0_compareGuesses yX0_compareGuesses, Cond.initialized RX0, Cond.code yX0_compareGuesses cX0_compareGuesses 8 none, Cond.constant RX0 37 (-100000001), Cond.fieldLink RX0 44 "CloseClocks$Clocks" "shape" "LCloseClocks$Net;", Cond.methodLink RX0 115 Lib.Math.max.name, Cond.static Lib.Math.max.name, Cond.initialized "java/lang/Math", Cond.code Lib.Math.max.name Lib.Math.max.code 2 (some .int), Cond.fieldLink RX0 41 "CloseClocks$Clocks" "behind" "I", Cond.methodLink RX0 103 yX0_clockOf, Cond.instanceMethod yX0_clockOf, Cond.selects RX0 yX0_clockOf yX0_clockOf, Cond.code yX0_clockOf cX0_clockOf 2 (some .int), Cond.fieldLink RX0 9 "CloseClocks$Clocks" "past" "[I", Cond.methodLink RX0 109 yX1_neighbourOf, Cond.instanceMethod yX1_neighbourOf, Cond.selects RX1 yX1_neighbourOf yX1_neighbourOf, Cond.initialized RX1, Cond.code yX1_neighbourOf cX1_neighbourOf 3 (some .int), Cond.fieldLink RX1 15 "CloseClocks$Net" "neighbours" "[I"]
def wsX0_aheadOf_r2 : List Cond := [Cond.static yX3_cell, Cond.initialized RX3, Cond.code yX3_cell cX3_cell 2 (some .int), Cond.methodLink RX0 112 yX0_guess, Cond.instanceMethod yX0_guess, Cond.selects RX0 yX0_guess yX0_guess, Cond.code yX0_guess cX0_guess 5 (some .int), Cond.fieldLink RX0 24 "CloseClocks$Clocks" "delays" "[I", Cond.fieldLink RX0 27 "CloseClocks$Clocks" "errors" "[I"]
def wsX0_aheadOf : List Cond := .code yX0_aheadOf cX0_aheadOf 2 (some .int) :: ((wsX0_aheadOf_r1 ++ wsX0_aheadOf_r2) ++ wsX00 ++ wsX10)
def wsX0_behindOf_r1 : List Cond := [Cond.fieldLink RX0 41 "CloseClocks$Clocks" "behind" "I", Cond.methodLink RX0 93 yX0_compareGuesses, Cond.instanceMethod yX0_compareGuesses, Cond.selects RX0 yX0_compareGuesses yX0_compareGuesses, Cond.initialized RX0, Cond.code yX0_compareGuesses cX0_compareGuesses 8 none, Cond.constant RX0 37 (-100000001), Cond.fieldLink RX0 44 "CloseClocks$Clocks" "shape" "LCloseClocks$Net;", Cond.methodLink RX0 115 Lib.Math.max.name, Cond.static Lib.Math.max.name, Cond.initialized "java/lang/Math", Cond.code Lib.Math.max.name Lib.Math.max.code 2 (some .int), Cond.fieldLink RX0 38 "CloseClocks$Clocks" "ahead" "I", Cond.methodLink RX0 103 yX0_clockOf, Cond.instanceMethod yX0_clockOf, Cond.selects RX0 yX0_clockOf yX0_clockOf, Cond.code yX0_clockOf cX0_clockOf 2 (some .int), Cond.fieldLink RX0 9 "CloseClocks$Clocks" "past" "[I", Cond.methodLink RX0 109 yX1_neighbourOf, Cond.instanceMethod yX1_neighbourOf, Cond.selects RX1 yX1_neighbourOf yX1_neighbourOf, Cond.initialized RX1, Cond.code yX1_neighbourOf cX1_neighbourOf 3 (some .int), Cond.fieldLink RX1 15 "CloseClocks$Net" "neighbours" "[I"]
def wsX0_behindOf_r2 : List Cond := [Cond.static yX3_cell, Cond.initialized RX3, Cond.code yX3_cell cX3_cell 2 (some .int), Cond.methodLink RX0 112 yX0_guess, Cond.instanceMethod yX0_guess, Cond.selects RX0 yX0_guess yX0_guess, Cond.code yX0_guess cX0_guess 5 (some .int), Cond.fieldLink RX0 24 "CloseClocks$Clocks" "delays" "[I", Cond.fieldLink RX0 27 "CloseClocks$Clocks" "errors" "[I"]
def wsX0_behindOf : List Cond := .code yX0_behindOf cX0_behindOf 2 (some .int) :: ((wsX0_behindOf_r1 ++ wsX0_behindOf_r2) ++ wsX00 ++ wsX10)
def wsX3_dividedUp : List Cond := .code yX3_dividedUp cX3_dividedUp 2 (some .int) :: ([])
def wsX3_levelReaching : List Cond := .code yX3_levelReaching cX3_levelReaching 2 (some .int) :: ([.methodLink RX3 252 yX3_dividedUp, .static yX3_dividedUp, .initialized RX3, .code yX3_dividedUp cX3_dividedUp 2 (some .int)])
def wsX0_upLevel : List Cond := .code yX0_upLevel cX0_upLevel 3 (some .int) :: ([.fieldLink RX0 41 "CloseClocks$Clocks" "behind" "I", .fieldLink RX0 38 "CloseClocks$Clocks" "ahead" "I", .constant RX0 37 (-100000001), .static yX3_levelReaching, .initialized RX3, .code yX3_levelReaching cX3_levelReaching 2 (some .int), .methodLink RX3 252 yX3_dividedUp, .static yX3_dividedUp, .code yX3_dividedUp cX3_dividedUp 2 (some .int)] ++ wsX00)
def wsX0_leastUp_r1 : List Cond := [Cond.methodLink RX0 93 yX0_compareGuesses, Cond.instanceMethod yX0_compareGuesses, Cond.selects RX0 yX0_compareGuesses yX0_compareGuesses, Cond.initialized RX0, Cond.code yX0_compareGuesses cX0_compareGuesses 8 none, Cond.constant RX0 37 (-100000001), Cond.fieldLink RX0 44 "CloseClocks$Clocks" "shape" "LCloseClocks$Net;", Cond.methodLink RX0 115 Lib.Math.max.name, Cond.static Lib.Math.max.name, Cond.initialized "java/lang/Math", Cond.code Lib.Math.max.name Lib.Math.max.code 2 (some .int), Cond.fieldLink RX0 38 "CloseClocks$Clocks" "ahead" "I", Cond.fieldLink RX0 41 "CloseClocks$Clocks" "behind" "I", Cond.methodLink RX0 103 yX0_clockOf, Cond.instanceMethod yX0_clockOf, Cond.selects RX0 yX0_clockOf yX0_clockOf, Cond.code yX0_clockOf cX0_clockOf 2 (some .int), Cond.fieldLink RX0 9 "CloseClocks$Clocks" "past" "[I", Cond.methodLink RX0 109 yX1_neighbourOf, Cond.instanceMethod yX1_neighbourOf, Cond.selects RX1 yX1_neighbourOf yX1_neighbourOf, Cond.initialized RX1, Cond.code yX1_neighbourOf cX1_neighbourOf 3 (some .int), Cond.fieldLink RX1 15 "CloseClocks$Net" "neighbours" "[I"]
def wsX0_leastUp_r2 : List Cond := [Cond.static yX3_cell, Cond.initialized RX3, Cond.code yX3_cell cX3_cell 2 (some .int), Cond.methodLink RX0 112 yX0_guess, Cond.instanceMethod yX0_guess, Cond.selects RX0 yX0_guess yX0_guess, Cond.code yX0_guess cX0_guess 5 (some .int), Cond.fieldLink RX0 24 "CloseClocks$Clocks" "delays" "[I", Cond.fieldLink RX0 27 "CloseClocks$Clocks" "errors" "[I", Cond.methodLink RX0 97 yX0_upLevel, Cond.instanceMethod yX0_upLevel, Cond.selects RX0 yX0_upLevel yX0_upLevel, Cond.code yX0_upLevel cX0_upLevel 3 (some .int), Cond.static yX3_levelReaching, Cond.code yX3_levelReaching cX3_levelReaching 2 (some .int), Cond.methodLink RX3 252 yX3_dividedUp, Cond.static yX3_dividedUp, Cond.code yX3_dividedUp cX3_dividedUp 2 (some .int)]
def wsX0_leastUp : List Cond := .code yX0_leastUp cX0_leastUp 3 (some .int) :: ((wsX0_leastUp_r1 ++ wsX0_leastUp_r2) ++ wsX00 ++ wsX10)
def wsX0_downLevel : List Cond := .code yX0_downLevel cX0_downLevel 3 (some .int) :: ([.fieldLink RX0 38 "CloseClocks$Clocks" "ahead" "I", .fieldLink RX0 41 "CloseClocks$Clocks" "behind" "I", .constant RX0 37 (-100000001), .static yX3_dividedUp, .initialized RX3, .code yX3_dividedUp cX3_dividedUp 2 (some .int)] ++ wsX00)
def wsX0_leastDown_r1 : List Cond := [Cond.methodLink RX0 93 yX0_compareGuesses, Cond.instanceMethod yX0_compareGuesses, Cond.selects RX0 yX0_compareGuesses yX0_compareGuesses, Cond.initialized RX0, Cond.code yX0_compareGuesses cX0_compareGuesses 8 none, Cond.constant RX0 37 (-100000001), Cond.fieldLink RX0 44 "CloseClocks$Clocks" "shape" "LCloseClocks$Net;", Cond.methodLink RX0 115 Lib.Math.max.name, Cond.static Lib.Math.max.name, Cond.initialized "java/lang/Math", Cond.code Lib.Math.max.name Lib.Math.max.code 2 (some .int), Cond.fieldLink RX0 38 "CloseClocks$Clocks" "ahead" "I", Cond.fieldLink RX0 41 "CloseClocks$Clocks" "behind" "I", Cond.methodLink RX0 103 yX0_clockOf, Cond.instanceMethod yX0_clockOf, Cond.selects RX0 yX0_clockOf yX0_clockOf, Cond.code yX0_clockOf cX0_clockOf 2 (some .int), Cond.fieldLink RX0 9 "CloseClocks$Clocks" "past" "[I", Cond.methodLink RX0 109 yX1_neighbourOf, Cond.instanceMethod yX1_neighbourOf, Cond.selects RX1 yX1_neighbourOf yX1_neighbourOf, Cond.initialized RX1, Cond.code yX1_neighbourOf cX1_neighbourOf 3 (some .int), Cond.fieldLink RX1 15 "CloseClocks$Net" "neighbours" "[I"]
def wsX0_leastDown_r2 : List Cond := [Cond.static yX3_cell, Cond.initialized RX3, Cond.code yX3_cell cX3_cell 2 (some .int), Cond.methodLink RX0 112 yX0_guess, Cond.instanceMethod yX0_guess, Cond.selects RX0 yX0_guess yX0_guess, Cond.code yX0_guess cX0_guess 5 (some .int), Cond.fieldLink RX0 24 "CloseClocks$Clocks" "delays" "[I", Cond.fieldLink RX0 27 "CloseClocks$Clocks" "errors" "[I", Cond.methodLink RX0 100 yX0_downLevel, Cond.instanceMethod yX0_downLevel, Cond.selects RX0 yX0_downLevel yX0_downLevel, Cond.code yX0_downLevel cX0_downLevel 3 (some .int), Cond.static yX3_dividedUp, Cond.code yX3_dividedUp cX3_dividedUp 2 (some .int)]
def wsX0_leastDown : List Cond := .code yX0_leastDown cX0_leastDown 3 (some .int) :: ((wsX0_leastDown_r1 ++ wsX0_leastDown_r2) ++ wsX00 ++ wsX10)
def wsX0_move_r1 : List Cond := [Cond.fieldLink RX0 44 "CloseClocks$Clocks" "shape" "LCloseClocks$Net;", Cond.constant RX0 37 (-100000001), Cond.fieldLink RX0 18 "CloseClocks$Clocks" "fast" "[I", Cond.fieldLink RX0 9 "CloseClocks$Clocks" "past" "[I", Cond.methodLink RX0 76 arraycopyName, Cond.native arraycopyName, Cond.static arraycopyName, Cond.initialized "java/lang/System", Cond.fieldLink RX0 15 "CloseClocks$Clocks" "rates" "[I", Cond.methodLink RX0 93 yX0_compareGuesses, Cond.instanceMethod yX0_compareGuesses, Cond.selects RX0 yX0_compareGuesses yX0_compareGuesses, Cond.initialized RX0, Cond.code yX0_compareGuesses cX0_compareGuesses 8 none, Cond.methodLink RX0 115 Lib.Math.max.name, Cond.static Lib.Math.max.name, Cond.initialized "java/lang/Math", Cond.code Lib.Math.max.name Lib.Math.max.code 2 (some .int), Cond.fieldLink RX0 38 "CloseClocks$Clocks" "ahead" "I", Cond.fieldLink RX0 41 "CloseClocks$Clocks" "behind" "I", Cond.methodLink RX0 103 yX0_clockOf, Cond.instanceMethod yX0_clockOf, Cond.selects RX0 yX0_clockOf yX0_clockOf, Cond.code yX0_clockOf cX0_clockOf 2 (some .int)]
def wsX0_move_r2 : List Cond := [Cond.methodLink RX0 109 yX1_neighbourOf, Cond.instanceMethod yX1_neighbourOf, Cond.selects RX1 yX1_neighbourOf yX1_neighbourOf, Cond.initialized RX1, Cond.code yX1_neighbourOf cX1_neighbourOf 3 (some .int), Cond.fieldLink RX1 15 "CloseClocks$Net" "neighbours" "[I", Cond.static yX3_cell, Cond.initialized RX3, Cond.code yX3_cell cX3_cell 2 (some .int), Cond.methodLink RX0 112 yX0_guess, Cond.instanceMethod yX0_guess, Cond.selects RX0 yX0_guess yX0_guess, Cond.code yX0_guess cX0_guess 5 (some .int), Cond.fieldLink RX0 24 "CloseClocks$Clocks" "delays" "[I", Cond.fieldLink RX0 27 "CloseClocks$Clocks" "errors" "[I", Cond.methodLink RX0 97 yX0_upLevel, Cond.instanceMethod yX0_upLevel, Cond.selects RX0 yX0_upLevel yX0_upLevel, Cond.code yX0_upLevel cX0_upLevel 3 (some .int), Cond.static yX3_levelReaching, Cond.code yX3_levelReaching cX3_levelReaching 2 (some .int), Cond.methodLink RX3 252 yX3_dividedUp, Cond.static yX3_dividedUp, Cond.code yX3_dividedUp cX3_dividedUp 2 (some .int)]
def wsX0_move_r3 : List Cond := [Cond.methodLink RX0 100 yX0_downLevel, Cond.instanceMethod yX0_downLevel, Cond.selects RX0 yX0_downLevel yX0_downLevel, Cond.code yX0_downLevel cX0_downLevel 3 (some .int)]
def wsX0_move : List Cond := .code yX0_move cX0_move 4 none :: ((wsX0_move_r1 ++ (wsX0_move_r2 ++ wsX0_move_r3)) ++ wsX00 ++ wsX10)
def wsX1_hopsOf : List Cond := .code yX1_hopsOf cX1_hopsOf 4 (some .int) :: ([.fieldLink RX1 18 "CloseClocks$Net" "ways" "[I", .constant RX1 36 (-100000001), .static yX3_cell, .initialized RX3, .code yX3_cell cX3_cell 2 (some .int)] ++ wsX10)
def wsX0_skewOf : List Cond := .code yX0_skewOf cX0_skewOf 3 (some .int) :: ([.methodLink RX0 134 Lib.Math.abs.name, .static Lib.Math.abs.name, .initialized "java/lang/Math", .code Lib.Math.abs.name Lib.Math.abs.code 1 (some .int), .methodLink RX0 103 yX0_clockOf, .instanceMethod yX0_clockOf, .selects RX0 yX0_clockOf yX0_clockOf, .initialized RX0, .code yX0_clockOf cX0_clockOf 2 (some .int), .fieldLink RX0 9 "CloseClocks$Clocks" "past" "[I"] ++ wsX00)
def wsX0_skewByHops_r1 : List Cond := [Cond.constant RX0 37 (-100000001), Cond.fieldLink RX0 44 "CloseClocks$Clocks" "shape" "LCloseClocks$Net;", Cond.methodLink RX0 115 Lib.Math.max.name, Cond.static Lib.Math.max.name, Cond.initialized "java/lang/Math", Cond.code Lib.Math.max.name Lib.Math.max.code 2 (some .int), Cond.methodLink RX0 143 yX1_hopsOf, Cond.instanceMethod yX1_hopsOf, Cond.selects RX1 yX1_hopsOf yX1_hopsOf, Cond.initialized RX1, Cond.code yX1_hopsOf cX1_hopsOf 4 (some .int), Cond.fieldLink RX1 18 "CloseClocks$Net" "ways" "[I", Cond.constant RX1 36 (-100000001), Cond.static yX3_cell, Cond.initialized RX3, Cond.code yX3_cell cX3_cell 2 (some .int), Cond.methodLink RX0 140 yX0_skewOf, Cond.instanceMethod yX0_skewOf, Cond.selects RX0 yX0_skewOf yX0_skewOf, Cond.initialized RX0, Cond.code yX0_skewOf cX0_skewOf 3 (some .int), Cond.methodLink RX0 134 Lib.Math.abs.name, Cond.static Lib.Math.abs.name, Cond.code Lib.Math.abs.name Lib.Math.abs.code 1 (some .int)]
def wsX0_skewByHops_r2 : List Cond := [Cond.methodLink RX0 103 yX0_clockOf, Cond.instanceMethod yX0_clockOf, Cond.selects RX0 yX0_clockOf yX0_clockOf, Cond.code yX0_clockOf cX0_clockOf 2 (some .int), Cond.fieldLink RX0 9 "CloseClocks$Clocks" "past" "[I"]
def wsX0_skewByHops : List Cond := .code yX0_skewByHops cX0_skewByHops 5 (some .int) :: ((wsX0_skewByHops_r1 ++ wsX0_skewByHops_r2) ++ wsX00 ++ wsX10)
def wsX0_localSkew_r1 : List Cond := [Cond.methodLink RX0 137 yX0_skewByHops, Cond.instanceMethod yX0_skewByHops, Cond.selects RX0 yX0_skewByHops yX0_skewByHops, Cond.initialized RX0, Cond.code yX0_skewByHops cX0_skewByHops 5 (some .int), Cond.constant RX0 37 (-100000001), Cond.fieldLink RX0 44 "CloseClocks$Clocks" "shape" "LCloseClocks$Net;", Cond.methodLink RX0 115 Lib.Math.max.name, Cond.static Lib.Math.max.name, Cond.initialized "java/lang/Math", Cond.code Lib.Math.max.name Lib.Math.max.code 2 (some .int), Cond.methodLink RX0 143 yX1_hopsOf, Cond.instanceMethod yX1_hopsOf, Cond.selects RX1 yX1_hopsOf yX1_hopsOf, Cond.initialized RX1, Cond.code yX1_hopsOf cX1_hopsOf 4 (some .int), Cond.fieldLink RX1 18 "CloseClocks$Net" "ways" "[I", Cond.constant RX1 36 (-100000001), Cond.static yX3_cell, Cond.initialized RX3, Cond.code yX3_cell cX3_cell 2 (some .int), Cond.methodLink RX0 140 yX0_skewOf, Cond.instanceMethod yX0_skewOf, Cond.selects RX0 yX0_skewOf yX0_skewOf]
def wsX0_localSkew_r2 : List Cond := [Cond.code yX0_skewOf cX0_skewOf 3 (some .int), Cond.methodLink RX0 134 Lib.Math.abs.name, Cond.static Lib.Math.abs.name, Cond.code Lib.Math.abs.name Lib.Math.abs.code 1 (some .int), Cond.methodLink RX0 103 yX0_clockOf, Cond.instanceMethod yX0_clockOf, Cond.selects RX0 yX0_clockOf yX0_clockOf, Cond.code yX0_clockOf cX0_clockOf 2 (some .int), Cond.fieldLink RX0 9 "CloseClocks$Clocks" "past" "[I"]
def wsX0_localSkew : List Cond := .code yX0_localSkew cX0_localSkew 1 (some .int) :: ((wsX0_localSkew_r1 ++ wsX0_localSkew_r2) ++ wsX00 ++ wsX10)
def wsX0_tick_r1 : List Cond := [Cond.fieldLink RX0 44 "CloseClocks$Clocks" "shape" "LCloseClocks$Net;", Cond.fieldLink RX0 21 "CloseClocks$Clocks" "fastTicks" "[I", Cond.fieldLink RX0 18 "CloseClocks$Clocks" "fast" "[I", Cond.fieldLink RX0 30 "CloseClocks$Clocks" "ticks" "I", Cond.fieldLink RX0 34 "CloseClocks$Clocks" "greatestLocal" "I", Cond.methodLink RX0 115 Lib.Math.max.name, Cond.static Lib.Math.max.name, Cond.initialized "java/lang/Math", Cond.code Lib.Math.max.name Lib.Math.max.code 2 (some .int), Cond.methodLink RX0 126 yX0_move, Cond.instanceMethod yX0_move, Cond.selects RX0 yX0_move yX0_move, Cond.initialized RX0, Cond.code yX0_move cX0_move 4 none, Cond.constant RX0 37 (-100000001), Cond.fieldLink RX0 9 "CloseClocks$Clocks" "past" "[I", Cond.methodLink RX0 76 arraycopyName, Cond.native arraycopyName, Cond.static arraycopyName, Cond.initialized "java/lang/System", Cond.fieldLink RX0 15 "CloseClocks$Clocks" "rates" "[I", Cond.methodLink RX0 93 yX0_compareGuesses, Cond.instanceMethod yX0_compareGuesses, Cond.selects RX0 yX0_compareGuesses yX0_compareGuesses]
def wsX0_tick_r2 : List Cond := [Cond.code yX0_compareGuesses cX0_compareGuesses 8 none, Cond.fieldLink RX0 38 "CloseClocks$Clocks" "ahead" "I", Cond.fieldLink RX0 41 "CloseClocks$Clocks" "behind" "I", Cond.methodLink RX0 103 yX0_clockOf, Cond.instanceMethod yX0_clockOf, Cond.selects RX0 yX0_clockOf yX0_clockOf, Cond.code yX0_clockOf cX0_clockOf 2 (some .int), Cond.methodLink RX0 109 yX1_neighbourOf, Cond.instanceMethod yX1_neighbourOf, Cond.selects RX1 yX1_neighbourOf yX1_neighbourOf, Cond.initialized RX1, Cond.code yX1_neighbourOf cX1_neighbourOf 3 (some .int), Cond.fieldLink RX1 15 "CloseClocks$Net" "neighbours" "[I", Cond.static yX3_cell, Cond.initialized RX3, Cond.code yX3_cell cX3_cell 2 (some .int), Cond.methodLink RX0 112 yX0_guess, Cond.instanceMethod yX0_guess, Cond.selects RX0 yX0_guess yX0_guess, Cond.code yX0_guess cX0_guess 5 (some .int), Cond.fieldLink RX0 24 "CloseClocks$Clocks" "delays" "[I", Cond.fieldLink RX0 27 "CloseClocks$Clocks" "errors" "[I", Cond.methodLink RX0 97 yX0_upLevel, Cond.instanceMethod yX0_upLevel]
def wsX0_tick_r3 : List Cond := [Cond.selects RX0 yX0_upLevel yX0_upLevel, Cond.code yX0_upLevel cX0_upLevel 3 (some .int), Cond.static yX3_levelReaching, Cond.code yX3_levelReaching cX3_levelReaching 2 (some .int), Cond.methodLink RX3 252 yX3_dividedUp, Cond.static yX3_dividedUp, Cond.code yX3_dividedUp cX3_dividedUp 2 (some .int), Cond.methodLink RX0 100 yX0_downLevel, Cond.instanceMethod yX0_downLevel, Cond.selects RX0 yX0_downLevel yX0_downLevel, Cond.code yX0_downLevel cX0_downLevel 3 (some .int), Cond.methodLink RX0 130 yX0_localSkew, Cond.instanceMethod yX0_localSkew, Cond.selects RX0 yX0_localSkew yX0_localSkew, Cond.code yX0_localSkew cX0_localSkew 1 (some .int), Cond.methodLink RX0 137 yX0_skewByHops, Cond.instanceMethod yX0_skewByHops, Cond.selects RX0 yX0_skewByHops yX0_skewByHops, Cond.code yX0_skewByHops cX0_skewByHops 5 (some .int), Cond.methodLink RX0 143 yX1_hopsOf, Cond.instanceMethod yX1_hopsOf, Cond.selects RX1 yX1_hopsOf yX1_hopsOf, Cond.code yX1_hopsOf cX1_hopsOf 4 (some .int), Cond.fieldLink RX1 18 "CloseClocks$Net" "ways" "[I"]
def wsX0_tick_r4 : List Cond := [Cond.constant RX1 36 (-100000001), Cond.methodLink RX0 140 yX0_skewOf, Cond.instanceMethod yX0_skewOf, Cond.selects RX0 yX0_skewOf yX0_skewOf, Cond.code yX0_skewOf cX0_skewOf 3 (some .int), Cond.methodLink RX0 134 Lib.Math.abs.name, Cond.static Lib.Math.abs.name, Cond.code Lib.Math.abs.name Lib.Math.abs.code 1 (some .int)]
def wsX0_tick : List Cond := .code yX0_tick cX0_tick 4 none :: ((wsX0_tick_r1 ++ (wsX0_tick_r2 ++ (wsX0_tick_r3 ++ wsX0_tick_r4))) ++ wsX00 ++ wsX10)
def wsX0_globalSkew : List Cond := .code yX0_globalSkew cX0_globalSkew 4 (some .int) :: ([.fieldLink RX0 44 "CloseClocks$Clocks" "shape" "LCloseClocks$Net;", .methodLink RX0 115 Lib.Math.max.name, .static Lib.Math.max.name, .initialized "java/lang/Math", .code Lib.Math.max.name Lib.Math.max.code 2 (some .int), .methodLink RX0 140 yX0_skewOf, .instanceMethod yX0_skewOf, .selects RX0 yX0_skewOf yX0_skewOf, .initialized RX0, .code yX0_skewOf cX0_skewOf 3 (some .int), .methodLink RX0 134 Lib.Math.abs.name, .static Lib.Math.abs.name, .code Lib.Math.abs.name Lib.Math.abs.code 1 (some .int), .methodLink RX0 103 yX0_clockOf, .instanceMethod yX0_clockOf, .selects RX0 yX0_clockOf yX0_clockOf, .code yX0_clockOf cX0_clockOf 2 (some .int), .fieldLink RX0 9 "CloseClocks$Clocks" "past" "[I"] ++ wsX00 ++ wsX10)
def wsX0_howManyFast : List Cond := .code yX0_howManyFast cX0_howManyFast 3 (some .int) :: ([.fieldLink RX0 44 "CloseClocks$Clocks" "shape" "LCloseClocks$Net;", .fieldLink RX0 18 "CloseClocks$Clocks" "fast" "[I"] ++ wsX00 ++ wsX10)
def wsX1_init : List Cond := .code yX1_init cX1_init 1 none :: ([.methodLink RX1 3 objectInit, .instanceMethod objectInit, .code objectInit ⟨#[0xb1]⟩ 1 none, .arrayClass .int, .fieldLink RX1 9 "CloseClocks$Net" "degrees" "[I", .fieldLink RX1 15 "CloseClocks$Net" "neighbours" "[I", .fieldLink RX1 18 "CloseClocks$Net" "ways" "[I", .fieldLink RX1 21 "CloseClocks$Net" "nodes" "I", .fieldLink RX1 25 "CloseClocks$Net" "links" "I"] ++ wsX10)
def wsX1_isRead : List Cond := .code yX1_isRead cX1_isRead 1 (some .boolean) :: ([.fieldLink RX1 21 "CloseClocks$Net" "nodes" "I"] ++ wsX10)
def wsX2_howManyLinks : List Cond := .code yX2_howManyLinks cX2_howManyLinks 1 (some .int) :: ([.fieldLink RX2 15 "CloseClocks$Page" "length" "I"] ++ wsX20)
def wsX1_addNeighbour : List Cond := .code yX1_addNeighbour cX1_addNeighbour 3 none :: ([.fieldLink RX1 9 "CloseClocks$Net" "degrees" "[I", .fieldLink RX1 15 "CloseClocks$Net" "neighbours" "[I", .fieldLink RX1 18 "CloseClocks$Net" "ways" "[I", .static yX3_cell, .initialized RX3, .code yX3_cell cX3_cell 2 (some .int)] ++ wsX10)
def wsX1_join : List Cond := .code yX1_join cX1_join 3 none :: ([.methodLink RX1 28 yX1_hasNode, .instanceMethod yX1_hasNode, .selects RX1 yX1_hasNode yX1_hasNode, .initialized RX1, .code yX1_hasNode cX1_hasNode 2 (some .boolean), .fieldLink RX1 21 "CloseClocks$Net" "nodes" "I", .methodLink RX1 57 yX1_addNeighbour, .instanceMethod yX1_addNeighbour, .selects RX1 yX1_addNeighbour yX1_addNeighbour, .code yX1_addNeighbour cX1_addNeighbour 3 none, .fieldLink RX1 9 "CloseClocks$Net" "degrees" "[I", .fieldLink RX1 15 "CloseClocks$Net" "neighbours" "[I", .fieldLink RX1 18 "CloseClocks$Net" "ways" "[I", .static yX3_cell, .initialized RX3, .code yX3_cell cX3_cell 2 (some .int)] ++ wsX10)
def wsX1_shortenWays : List Cond := .code yX1_shortenWays cX1_shortenWays 5 none :: ([.fieldLink RX1 21 "CloseClocks$Net" "nodes" "I", .fieldLink RX1 18 "CloseClocks$Net" "ways" "[I", .methodLink RX1 60 Lib.Math.min.name, .static Lib.Math.min.name, .initialized "java/lang/Math", .code Lib.Math.min.name Lib.Math.min.code 2 (some .int), .static yX3_cell, .initialized RX3, .code yX3_cell cX3_cell 2 (some .int)] ++ wsX10)
def wsX1_readFrom_r1 : List Cond := [Cond.fieldLink RX1 21 "CloseClocks$Net" "nodes" "I", Cond.fieldLink RX1 25 "CloseClocks$Net" "links" "I", Cond.fieldLink RX1 9 "CloseClocks$Net" "degrees" "[I", Cond.fieldLink RX1 18 "CloseClocks$Net" "ways" "[I", Cond.methodLink RX1 37 yX2_digitAt, Cond.instanceMethod yX2_digitAt, Cond.selects RX2 yX2_digitAt yX2_digitAt, Cond.initialized RX2, Cond.code yX2_digitAt cX2_digitAt 2 (some .int), Cond.methodLink RX2 20 yX2_letterAt, Cond.instanceMethod yX2_letterAt, Cond.selects RX2 yX2_letterAt yX2_letterAt, Cond.code yX2_letterAt cX2_letterAt 2 (some .int), Cond.fieldLink RX2 15 "CloseClocks$Page" "length" "I", Cond.fieldLink RX2 9 "CloseClocks$Page" "letters" "[I", Cond.constant RX2 19 (-100000001), Cond.methodLink RX1 43 yX2_howManyLinks, Cond.instanceMethod yX2_howManyLinks, Cond.selects RX2 yX2_howManyLinks yX2_howManyLinks, Cond.code yX2_howManyLinks cX2_howManyLinks 1 (some .int), Cond.static yX3_cell, Cond.initialized RX3, Cond.code yX3_cell cX3_cell 2 (some .int), Cond.methodLink RX1 47 yX2_placeOfLink]
def wsX1_readFrom_r2 : List Cond := [Cond.static yX2_placeOfLink, Cond.code yX2_placeOfLink cX2_placeOfLink 1 (some .int), Cond.methodLink RX1 50 yX1_join, Cond.instanceMethod yX1_join, Cond.selects RX1 yX1_join yX1_join, Cond.initialized RX1, Cond.code yX1_join cX1_join 3 none, Cond.methodLink RX1 28 yX1_hasNode, Cond.instanceMethod yX1_hasNode, Cond.selects RX1 yX1_hasNode yX1_hasNode, Cond.code yX1_hasNode cX1_hasNode 2 (some .boolean), Cond.methodLink RX1 57 yX1_addNeighbour, Cond.instanceMethod yX1_addNeighbour, Cond.selects RX1 yX1_addNeighbour yX1_addNeighbour, Cond.code yX1_addNeighbour cX1_addNeighbour 3 none, Cond.fieldLink RX1 15 "CloseClocks$Net" "neighbours" "[I", Cond.methodLink RX1 54 yX1_shortenWays, Cond.instanceMethod yX1_shortenWays, Cond.selects RX1 yX1_shortenWays yX1_shortenWays, Cond.code yX1_shortenWays cX1_shortenWays 5 none, Cond.methodLink RX1 60 Lib.Math.min.name, Cond.static Lib.Math.min.name, Cond.initialized "java/lang/Math", Cond.code Lib.Math.min.name Lib.Math.min.code 2 (some .int)]
def wsX1_readFrom : List Cond := .code yX1_readFrom cX1_readFrom 4 none :: ((wsX1_readFrom_r1 ++ wsX1_readFrom_r2) ++ wsX10 ++ wsX20)
def wsX2_init : List Cond := .code yX2_init cX2_init 1 none :: ([.methodLink RX2 3 objectInit, .instanceMethod objectInit, .code objectInit ⟨#[0xb1]⟩ 1 none, .arrayClass .int, .fieldLink RX2 9 "CloseClocks$Page" "letters" "[I", .fieldLink RX2 15 "CloseClocks$Page" "length" "I"] ++ wsX20)
def wsX2_isFull : List Cond := .code yX2_isFull cX2_isFull 1 (some .boolean) :: ([.fieldLink RX2 15 "CloseClocks$Page" "length" "I"] ++ wsX20)
def wsX2_append : List Cond := .code yX2_append cX2_append 2 (some .int) :: ([.fieldLink RX2 15 "CloseClocks$Page" "length" "I", .fieldLink RX2 9 "CloseClocks$Page" "letters" "[I"] ++ wsX20)
def wsX2_empty : List Cond := .code yX2_empty cX2_empty 2 (some .int) :: ([.fieldLink RX2 15 "CloseClocks$Page" "length" "I"] ++ wsX20)
def wsX2_isNode : List Cond := .code yX2_isNode cX2_isNode 2 (some .boolean) :: ([.methodLink RX2 32 yX2_digitAt, .instanceMethod yX2_digitAt, .selects RX2 yX2_digitAt yX2_digitAt, .initialized RX2, .code yX2_digitAt cX2_digitAt 2 (some .int), .methodLink RX2 20 yX2_letterAt, .instanceMethod yX2_letterAt, .selects RX2 yX2_letterAt yX2_letterAt, .code yX2_letterAt cX2_letterAt 2 (some .int), .fieldLink RX2 15 "CloseClocks$Page" "length" "I", .fieldLink RX2 9 "CloseClocks$Page" "letters" "[I", .constant RX2 19 (-100000001)] ++ wsX20)
def wsX2_isNewLink : List Cond := .code yX2_isNewLink cX2_isNewLink 7 (some .boolean) :: ([.methodLink RX2 32 yX2_digitAt, .instanceMethod yX2_digitAt, .selects RX2 yX2_digitAt yX2_digitAt, .initialized RX2, .code yX2_digitAt cX2_digitAt 2 (some .int), .methodLink RX2 20 yX2_letterAt, .instanceMethod yX2_letterAt, .selects RX2 yX2_letterAt yX2_letterAt, .code yX2_letterAt cX2_letterAt 2 (some .int), .fieldLink RX2 15 "CloseClocks$Page" "length" "I", .fieldLink RX2 9 "CloseClocks$Page" "letters" "[I", .constant RX2 19 (-100000001), .methodLink RX2 41 yX2_placeOfLink, .static yX2_placeOfLink, .code yX2_placeOfLink cX2_placeOfLink 1 (some .int)] ++ wsX20)
def wsX2_fitsAt : List Cond := .code yX2_fitsAt cX2_fitsAt 3 (some .boolean) :: ([.methodLink RX2 32 yX2_digitAt, .instanceMethod yX2_digitAt, .selects RX2 yX2_digitAt yX2_digitAt, .initialized RX2, .code yX2_digitAt cX2_digitAt 2 (some .int), .methodLink RX2 20 yX2_letterAt, .instanceMethod yX2_letterAt, .selects RX2 yX2_letterAt yX2_letterAt, .code yX2_letterAt cX2_letterAt 2 (some .int), .fieldLink RX2 15 "CloseClocks$Page" "length" "I", .fieldLink RX2 9 "CloseClocks$Page" "letters" "[I", .constant RX2 19 (-100000001), .methodLink RX2 35 yX2_isNode, .instanceMethod yX2_isNode, .selects RX2 yX2_isNode yX2_isNode, .code yX2_isNode cX2_isNode 2 (some .boolean), .methodLink RX2 38 yX2_isNewLink, .instanceMethod yX2_isNewLink, .selects RX2 yX2_isNewLink yX2_isNewLink, .code yX2_isNewLink cX2_isNewLink 7 (some .boolean), .methodLink RX2 41 yX2_placeOfLink, .static yX2_placeOfLink, .code yX2_placeOfLink cX2_placeOfLink 1 (some .int)] ++ wsX20)
def wsX2_firstFault_r1 : List Cond := [Cond.fieldLink RX2 15 "CloseClocks$Page" "length" "I", Cond.methodLink RX2 24 yX2_fitsAt, Cond.instanceMethod yX2_fitsAt, Cond.selects RX2 yX2_fitsAt yX2_fitsAt, Cond.initialized RX2, Cond.code yX2_fitsAt cX2_fitsAt 3 (some .boolean), Cond.methodLink RX2 32 yX2_digitAt, Cond.instanceMethod yX2_digitAt, Cond.selects RX2 yX2_digitAt yX2_digitAt, Cond.code yX2_digitAt cX2_digitAt 2 (some .int), Cond.methodLink RX2 20 yX2_letterAt, Cond.instanceMethod yX2_letterAt, Cond.selects RX2 yX2_letterAt yX2_letterAt, Cond.code yX2_letterAt cX2_letterAt 2 (some .int), Cond.fieldLink RX2 9 "CloseClocks$Page" "letters" "[I", Cond.constant RX2 19 (-100000001), Cond.methodLink RX2 35 yX2_isNode, Cond.instanceMethod yX2_isNode, Cond.selects RX2 yX2_isNode yX2_isNode, Cond.code yX2_isNode cX2_isNode 2 (some .boolean), Cond.methodLink RX2 38 yX2_isNewLink, Cond.instanceMethod yX2_isNewLink, Cond.selects RX2 yX2_isNewLink yX2_isNewLink, Cond.code yX2_isNewLink cX2_isNewLink 7 (some .boolean)]
def wsX2_firstFault_r2 : List Cond := [Cond.methodLink RX2 41 yX2_placeOfLink, Cond.static yX2_placeOfLink, Cond.code yX2_placeOfLink cX2_placeOfLink 1 (some .int)]
def wsX2_firstFault : List Cond := .code yX2_firstFault cX2_firstFault 2 (some .int) :: ((wsX2_firstFault_r1 ++ wsX2_firstFault_r2) ++ wsX20)
def wsX2_isNet_r1 : List Cond := [Cond.fieldLink RX2 15 "CloseClocks$Page" "length" "I", Cond.methodLink RX2 28 yX2_firstFault, Cond.instanceMethod yX2_firstFault, Cond.selects RX2 yX2_firstFault yX2_firstFault, Cond.initialized RX2, Cond.code yX2_firstFault cX2_firstFault 2 (some .int), Cond.methodLink RX2 24 yX2_fitsAt, Cond.instanceMethod yX2_fitsAt, Cond.selects RX2 yX2_fitsAt yX2_fitsAt, Cond.code yX2_fitsAt cX2_fitsAt 3 (some .boolean), Cond.methodLink RX2 32 yX2_digitAt, Cond.instanceMethod yX2_digitAt, Cond.selects RX2 yX2_digitAt yX2_digitAt, Cond.code yX2_digitAt cX2_digitAt 2 (some .int), Cond.methodLink RX2 20 yX2_letterAt, Cond.instanceMethod yX2_letterAt, Cond.selects RX2 yX2_letterAt yX2_letterAt, Cond.code yX2_letterAt cX2_letterAt 2 (some .int), Cond.fieldLink RX2 9 "CloseClocks$Page" "letters" "[I", Cond.constant RX2 19 (-100000001), Cond.methodLink RX2 35 yX2_isNode, Cond.instanceMethod yX2_isNode, Cond.selects RX2 yX2_isNode yX2_isNode, Cond.code yX2_isNode cX2_isNode 2 (some .boolean)]
def wsX2_isNet_r2 : List Cond := [Cond.methodLink RX2 38 yX2_isNewLink, Cond.instanceMethod yX2_isNewLink, Cond.selects RX2 yX2_isNewLink yX2_isNewLink, Cond.code yX2_isNewLink cX2_isNewLink 7 (some .boolean), Cond.methodLink RX2 41 yX2_placeOfLink, Cond.static yX2_placeOfLink, Cond.code yX2_placeOfLink cX2_placeOfLink 1 (some .int)]
def wsX2_isNet : List Cond := .code yX2_isNet cX2_isNet 1 (some .boolean) :: ((wsX2_isNet_r1 ++ wsX2_isNet_r2) ++ wsX20)
def wsX3_init_r1 : List Cond := [Cond.methodLink RX3 1 objectInit, Cond.instanceMethod objectInit, Cond.code objectInit ⟨#[0xb1]⟩ 1 none, Cond.classLink RX3 7 RX2, Cond.instantiable RX2 2, Cond.initialized RX2, Cond.fieldLink RX3 10 "CloseClocks" "page" "LCloseClocks$Page;", Cond.classLink RX3 16 RX1, Cond.instantiable RX1 5, Cond.initialized RX1, Cond.fieldLink RX3 19 "CloseClocks" "shape" "LCloseClocks$Net;", Cond.classLink RX3 23 RX0, Cond.instantiable RX0 11, Cond.initialized RX0, Cond.fieldLink RX3 28 "CloseClocks" "now" "LCloseClocks$Clocks;", Cond.fieldLink RX3 32 "CloseClocks" "kept" "LCloseClocks$Clocks;", Cond.fieldLink RX3 35 "CloseClocks" "trial" "LCloseClocks$Clocks;", Cond.fieldLink RX3 38 "CloseClocks" "imageKept" "Z", Cond.fieldLink RX3 42 "CloseClocks" "step" "I", Cond.fieldLink RX3 46 "CloseClocks" "boost" "I", Cond.fieldLink RX3 49 "CloseClocks" "netsRead" "I", Cond.fieldLink RX3 52 "CloseClocks" "ticksEver" "I", Cond.instanceMethod yX2_init, Cond.code yX2_init cX2_init 1 none]
def wsX3_init_r2 : List Cond := [Cond.methodLink RX2 3 objectInit, Cond.arrayClass .int, Cond.fieldLink RX2 9 "CloseClocks$Page" "letters" "[I", Cond.fieldLink RX2 15 "CloseClocks$Page" "length" "I", Cond.instanceMethod yX1_init, Cond.code yX1_init cX1_init 1 none, Cond.methodLink RX1 3 objectInit, Cond.fieldLink RX1 9 "CloseClocks$Net" "degrees" "[I", Cond.fieldLink RX1 15 "CloseClocks$Net" "neighbours" "[I", Cond.fieldLink RX1 18 "CloseClocks$Net" "ways" "[I", Cond.fieldLink RX1 21 "CloseClocks$Net" "nodes" "I", Cond.fieldLink RX1 25 "CloseClocks$Net" "links" "I", Cond.methodLink RX3 25 yX0_init, Cond.instanceMethod yX0_init, Cond.code yX0_init cX0_init 2 none, Cond.methodLink RX0 3 objectInit, Cond.fieldLink RX0 9 "CloseClocks$Clocks" "past" "[I", Cond.fieldLink RX0 15 "CloseClocks$Clocks" "rates" "[I", Cond.fieldLink RX0 18 "CloseClocks$Clocks" "fast" "[I", Cond.fieldLink RX0 21 "CloseClocks$Clocks" "fastTicks" "[I", Cond.fieldLink RX0 24 "CloseClocks$Clocks" "delays" "[I", Cond.fieldLink RX0 27 "CloseClocks$Clocks" "errors" "[I", Cond.fieldLink RX0 30 "CloseClocks$Clocks" "ticks" "I", Cond.fieldLink RX0 34 "CloseClocks$Clocks" "greatestLocal" "I"]
def wsX3_init_r3 : List Cond := [Cond.constant RX0 37 (-100000001), Cond.fieldLink RX0 38 "CloseClocks$Clocks" "ahead" "I", Cond.fieldLink RX0 41 "CloseClocks$Clocks" "behind" "I", Cond.fieldLink RX0 44 "CloseClocks$Clocks" "shape" "LCloseClocks$Net;"]
def wsX3_init : List Cond := .code yX3_init cX3_init 1 none :: ((wsX3_init_r1 ++ (wsX3_init_r2 ++ wsX3_init_r3)) ++ wsX20 ++ wsX30 ++ wsX10 ++ wsX00)
def wsX3_letter : List Cond := .code yX3_letter cX3_letter 2 (some .int) :: ([.constant RX3 55 (-100000003), .fieldLink RX3 10 "CloseClocks" "page" "LCloseClocks$Page;", .constant RX3 60 (-100000005), .methodLink RX3 56 yX2_isFull, .instanceMethod yX2_isFull, .selects RX2 yX2_isFull yX2_isFull, .initialized RX2, .code yX2_isFull cX2_isFull 1 (some .boolean), .fieldLink RX2 15 "CloseClocks$Page" "length" "I", .methodLink RX3 61 yX2_append, .instanceMethod yX2_append, .selects RX2 yX2_append yX2_append, .code yX2_append cX2_append 2 (some .int), .fieldLink RX2 9 "CloseClocks$Page" "letters" "[I"] ++ wsX30 ++ wsX20)
def wsX3_blank : List Cond := .code yX3_blank cX3_blank 1 (some .int) :: ([.fieldLink RX3 10 "CloseClocks" "page" "LCloseClocks$Page;", .methodLink RX3 65 yX2_empty, .instanceMethod yX2_empty, .selects RX2 yX2_empty yX2_empty, .initialized RX2, .code yX2_empty cX2_empty 2 (some .int), .fieldLink RX2 15 "CloseClocks$Page" "length" "I"] ++ wsX30 ++ wsX20)
def wsX3_fault_r1 : List Cond := [Cond.fieldLink RX3 10 "CloseClocks" "page" "LCloseClocks$Page;", Cond.methodLink RX3 69 yX2_firstFault, Cond.instanceMethod yX2_firstFault, Cond.selects RX2 yX2_firstFault yX2_firstFault, Cond.initialized RX2, Cond.code yX2_firstFault cX2_firstFault 2 (some .int), Cond.fieldLink RX2 15 "CloseClocks$Page" "length" "I", Cond.methodLink RX2 24 yX2_fitsAt, Cond.instanceMethod yX2_fitsAt, Cond.selects RX2 yX2_fitsAt yX2_fitsAt, Cond.code yX2_fitsAt cX2_fitsAt 3 (some .boolean), Cond.methodLink RX2 32 yX2_digitAt, Cond.instanceMethod yX2_digitAt, Cond.selects RX2 yX2_digitAt yX2_digitAt, Cond.code yX2_digitAt cX2_digitAt 2 (some .int), Cond.methodLink RX2 20 yX2_letterAt, Cond.instanceMethod yX2_letterAt, Cond.selects RX2 yX2_letterAt yX2_letterAt, Cond.code yX2_letterAt cX2_letterAt 2 (some .int), Cond.fieldLink RX2 9 "CloseClocks$Page" "letters" "[I", Cond.constant RX2 19 (-100000001), Cond.methodLink RX2 35 yX2_isNode, Cond.instanceMethod yX2_isNode, Cond.selects RX2 yX2_isNode yX2_isNode]
def wsX3_fault_r2 : List Cond := [Cond.code yX2_isNode cX2_isNode 2 (some .boolean), Cond.methodLink RX2 38 yX2_isNewLink, Cond.instanceMethod yX2_isNewLink, Cond.selects RX2 yX2_isNewLink yX2_isNewLink, Cond.code yX2_isNewLink cX2_isNewLink 7 (some .boolean), Cond.methodLink RX2 41 yX2_placeOfLink, Cond.static yX2_placeOfLink, Cond.code yX2_placeOfLink cX2_placeOfLink 1 (some .int)]
def wsX3_fault : List Cond := .code yX3_fault cX3_fault 1 (some .int) :: ((wsX3_fault_r1 ++ wsX3_fault_r2) ++ wsX30 ++ wsX20)
def wsX3_net_r1 : List Cond := [Cond.fieldLink RX3 10 "CloseClocks" "page" "LCloseClocks$Page;", Cond.constant RX3 75 (-100000004), Cond.fieldLink RX3 19 "CloseClocks" "shape" "LCloseClocks$Net;", Cond.fieldLink RX3 28 "CloseClocks" "now" "LCloseClocks$Clocks;", Cond.fieldLink RX3 38 "CloseClocks" "imageKept" "Z", Cond.fieldLink RX3 49 "CloseClocks" "netsRead" "I", Cond.methodLink RX3 72 yX2_isNet, Cond.instanceMethod yX2_isNet, Cond.selects RX2 yX2_isNet yX2_isNet, Cond.initialized RX2, Cond.code yX2_isNet cX2_isNet 1 (some .boolean), Cond.fieldLink RX2 15 "CloseClocks$Page" "length" "I", Cond.methodLink RX2 28 yX2_firstFault, Cond.instanceMethod yX2_firstFault, Cond.selects RX2 yX2_firstFault yX2_firstFault, Cond.code yX2_firstFault cX2_firstFault 2 (some .int), Cond.methodLink RX2 24 yX2_fitsAt, Cond.instanceMethod yX2_fitsAt, Cond.selects RX2 yX2_fitsAt yX2_fitsAt, Cond.code yX2_fitsAt cX2_fitsAt 3 (some .boolean), Cond.methodLink RX2 32 yX2_digitAt, Cond.instanceMethod yX2_digitAt, Cond.selects RX2 yX2_digitAt yX2_digitAt, Cond.code yX2_digitAt cX2_digitAt 2 (some .int)]
def wsX3_net_r2 : List Cond := [Cond.methodLink RX2 20 yX2_letterAt, Cond.instanceMethod yX2_letterAt, Cond.selects RX2 yX2_letterAt yX2_letterAt, Cond.code yX2_letterAt cX2_letterAt 2 (some .int), Cond.fieldLink RX2 9 "CloseClocks$Page" "letters" "[I", Cond.constant RX2 19 (-100000001), Cond.methodLink RX2 35 yX2_isNode, Cond.instanceMethod yX2_isNode, Cond.selects RX2 yX2_isNode yX2_isNode, Cond.code yX2_isNode cX2_isNode 2 (some .boolean), Cond.methodLink RX2 38 yX2_isNewLink, Cond.instanceMethod yX2_isNewLink, Cond.selects RX2 yX2_isNewLink yX2_isNewLink, Cond.code yX2_isNewLink cX2_isNewLink 7 (some .boolean), Cond.methodLink RX2 41 yX2_placeOfLink, Cond.static yX2_placeOfLink, Cond.code yX2_placeOfLink cX2_placeOfLink 1 (some .int), Cond.methodLink RX3 76 yX1_readFrom, Cond.instanceMethod yX1_readFrom, Cond.selects RX1 yX1_readFrom yX1_readFrom, Cond.initialized RX1, Cond.code yX1_readFrom cX1_readFrom 4 none, Cond.fieldLink RX1 21 "CloseClocks$Net" "nodes" "I", Cond.fieldLink RX1 25 "CloseClocks$Net" "links" "I"]
def wsX3_net_r3 : List Cond := [Cond.fieldLink RX1 9 "CloseClocks$Net" "degrees" "[I", Cond.fieldLink RX1 18 "CloseClocks$Net" "ways" "[I", Cond.methodLink RX1 37 yX2_digitAt, Cond.methodLink RX1 43 yX2_howManyLinks, Cond.instanceMethod yX2_howManyLinks, Cond.selects RX2 yX2_howManyLinks yX2_howManyLinks, Cond.code yX2_howManyLinks cX2_howManyLinks 1 (some .int), Cond.static yX3_cell, Cond.initialized RX3, Cond.code yX3_cell cX3_cell 2 (some .int), Cond.methodLink RX1 47 yX2_placeOfLink, Cond.methodLink RX1 50 yX1_join, Cond.instanceMethod yX1_join, Cond.selects RX1 yX1_join yX1_join, Cond.code yX1_join cX1_join 3 none, Cond.methodLink RX1 28 yX1_hasNode, Cond.instanceMethod yX1_hasNode, Cond.selects RX1 yX1_hasNode yX1_hasNode, Cond.code yX1_hasNode cX1_hasNode 2 (some .boolean), Cond.methodLink RX1 57 yX1_addNeighbour, Cond.instanceMethod yX1_addNeighbour, Cond.selects RX1 yX1_addNeighbour yX1_addNeighbour, Cond.code yX1_addNeighbour cX1_addNeighbour 3 none, Cond.fieldLink RX1 15 "CloseClocks$Net" "neighbours" "[I"]
def wsX3_net_r4 : List Cond := [Cond.methodLink RX1 54 yX1_shortenWays, Cond.instanceMethod yX1_shortenWays, Cond.selects RX1 yX1_shortenWays yX1_shortenWays, Cond.code yX1_shortenWays cX1_shortenWays 5 none, Cond.methodLink RX1 60 Lib.Math.min.name, Cond.static Lib.Math.min.name, Cond.initialized "java/lang/Math", Cond.code Lib.Math.min.name Lib.Math.min.code 2 (some .int), Cond.methodLink RX3 80 yX0_startFrom, Cond.instanceMethod yX0_startFrom, Cond.selects RX0 yX0_startFrom yX0_startFrom, Cond.initialized RX0, Cond.code yX0_startFrom cX0_startFrom 4 none, Cond.fieldLink RX0 9 "CloseClocks$Clocks" "past" "[I", Cond.fieldLink RX0 15 "CloseClocks$Clocks" "rates" "[I", Cond.fieldLink RX0 18 "CloseClocks$Clocks" "fast" "[I", Cond.fieldLink RX0 21 "CloseClocks$Clocks" "fastTicks" "[I", Cond.fieldLink RX0 27 "CloseClocks$Clocks" "errors" "[I", Cond.fieldLink RX0 44 "CloseClocks$Clocks" "shape" "LCloseClocks$Net;", Cond.fieldLink RX0 30 "CloseClocks$Clocks" "ticks" "I", Cond.fieldLink RX0 34 "CloseClocks$Clocks" "greatestLocal" "I", Cond.methodLink RX0 48 yJ7_fill_53178, Cond.static yJ7_fill_53178, Cond.initialized RJ7]
def wsX3_net_r5 : List Cond := [Cond.code yJ7_fill_53178 cJ7_fill_53178 4 none, Cond.methodLink RX0 59 yX2_placeOfLink, Cond.methodLink RX0 65 yX2_digitAt, Cond.methodLink RX0 68 yX0_tellDelay, Cond.instanceMethod yX0_tellDelay, Cond.selects RX0 yX0_tellDelay yX0_tellDelay, Cond.code yX0_tellDelay cX0_tellDelay 4 none, Cond.fieldLink RX0 24 "CloseClocks$Clocks" "delays" "[I", Cond.methodLink RX0 85 yX1_hasLink, Cond.instanceMethod yX1_hasLink, Cond.selects RX1 yX1_hasLink yX1_hasLink, Cond.code yX1_hasLink cX1_hasLink 3 (some .boolean), Cond.methodLink RX3 65 yX2_empty, Cond.instanceMethod yX2_empty, Cond.selects RX2 yX2_empty yX2_empty, Cond.code yX2_empty cX2_empty 2 (some .int)]
def wsX3_net : List Cond := .code yX3_net cX3_net 1 (some .int) :: ((wsX3_net_r1 ++ (wsX3_net_r2 ++ (wsX3_net_r3 ++ (wsX3_net_r4 ++ wsX3_net_r5)))) ++ wsX30 ++ wsX10 ++ wsX20 ++ wsX00)
def wsX3_set : List Cond := .code yX3_set cX3_set 4 (some .int) :: ([.constant RX3 55 (-100000003), .fieldLink RX3 42 "CloseClocks" "step" "I", .fieldLink RX3 46 "CloseClocks" "boost" "I"] ++ wsX30)
def wsX3_rate : List Cond := .code yX3_rate cX3_rate 4 (some .int) :: ([.fieldLink RX3 19 "CloseClocks" "shape" "LCloseClocks$Net;", .constant RX3 90 (-100000002), .constant RX3 55 (-100000003), .fieldLink RX3 28 "CloseClocks" "now" "LCloseClocks$Clocks;", .methodLink RX3 86 yX1_hasNode, .instanceMethod yX1_hasNode, .selects RX1 yX1_hasNode yX1_hasNode, .initialized RX1, .code yX1_hasNode cX1_hasNode 2 (some .boolean), .fieldLink RX1 21 "CloseClocks$Net" "nodes" "I"] ++ wsX30 ++ wsX00 ++ wsX10)
def wsX3_put : List Cond := .code yX3_put cX3_put 4 (some .int) :: ([.fieldLink RX3 19 "CloseClocks" "shape" "LCloseClocks$Net;", .constant RX3 90 (-100000002), .constant RX3 95 (1000000), .constant RX3 55 (-100000003), .fieldLink RX3 28 "CloseClocks" "now" "LCloseClocks$Clocks;", .methodLink RX3 86 yX1_hasNode, .instanceMethod yX1_hasNode, .selects RX1 yX1_hasNode yX1_hasNode, .initialized RX1, .code yX1_hasNode cX1_hasNode 2 (some .boolean), .fieldLink RX1 21 "CloseClocks$Net" "nodes" "I", .methodLink RX3 96 yX0_clockOf, .instanceMethod yX0_clockOf, .selects RX0 yX0_clockOf yX0_clockOf, .initialized RX0, .code yX0_clockOf cX0_clockOf 2 (some .int), .fieldLink RX0 9 "CloseClocks$Clocks" "past" "[I", .methodLink RX3 99 yX0_tellClock, .instanceMethod yX0_tellClock, .selects RX0 yX0_tellClock yX0_tellClock, .code yX0_tellClock cX0_tellClock 4 none, .static yX3_cell, .initialized RX3, .code yX3_cell cX3_cell 2 (some .int)] ++ wsX30 ++ wsX10 ++ wsX00)
def wsX3_wrong : List Cond := .code yX3_wrong cX3_wrong 5 (some .int) :: ([.fieldLink RX3 19 "CloseClocks" "shape" "LCloseClocks$Net;", .constant RX3 90 (-100000002), .constant RX3 55 (-100000003), .fieldLink RX3 28 "CloseClocks" "now" "LCloseClocks$Clocks;", .methodLink RX3 103 yX1_hasLink, .instanceMethod yX1_hasLink, .selects RX1 yX1_hasLink yX1_hasLink, .initialized RX1, .code yX1_hasLink cX1_hasLink 3 (some .boolean), .fieldLink RX1 18 "CloseClocks$Net" "ways" "[I", .methodLink RX1 28 yX1_hasNode, .instanceMethod yX1_hasNode, .selects RX1 yX1_hasNode yX1_hasNode, .code yX1_hasNode cX1_hasNode 2 (some .boolean), .fieldLink RX1 21 "CloseClocks$Net" "nodes" "I", .static yX3_cell, .initialized RX3, .code yX3_cell cX3_cell 2 (some .int), .methodLink RX3 110 yX3_cell] ++ wsX30 ++ wsX00 ++ wsX10)
def wsX3_delay_r1 : List Cond := [Cond.fieldLink RX3 19 "CloseClocks" "shape" "LCloseClocks$Net;", Cond.constant RX3 90 (-100000002), Cond.constant RX3 55 (-100000003), Cond.fieldLink RX3 28 "CloseClocks" "now" "LCloseClocks$Clocks;", Cond.methodLink RX3 103 yX1_hasLink, Cond.instanceMethod yX1_hasLink, Cond.selects RX1 yX1_hasLink yX1_hasLink, Cond.initialized RX1, Cond.code yX1_hasLink cX1_hasLink 3 (some .boolean), Cond.fieldLink RX1 18 "CloseClocks$Net" "ways" "[I", Cond.methodLink RX1 28 yX1_hasNode, Cond.instanceMethod yX1_hasNode, Cond.selects RX1 yX1_hasNode yX1_hasNode, Cond.code yX1_hasNode cX1_hasNode 2 (some .boolean), Cond.fieldLink RX1 21 "CloseClocks$Net" "nodes" "I", Cond.static yX3_cell, Cond.initialized RX3, Cond.code yX3_cell cX3_cell 2 (some .int), Cond.methodLink RX3 110 yX3_cell, Cond.methodLink RX3 117 yX0_tellDelay, Cond.instanceMethod yX0_tellDelay, Cond.selects RX0 yX0_tellDelay yX0_tellDelay, Cond.initialized RX0, Cond.code yX0_tellDelay cX0_tellDelay 4 none]
def wsX3_delay_r2 : List Cond := [Cond.fieldLink RX0 44 "CloseClocks$Clocks" "shape" "LCloseClocks$Net;", Cond.fieldLink RX0 24 "CloseClocks$Clocks" "delays" "[I", Cond.methodLink RX0 85 yX1_hasLink]
def wsX3_delay : List Cond := .code yX3_delay cX3_delay 5 (some .int) :: ((wsX3_delay_r1 ++ wsX3_delay_r2) ++ wsX30 ++ wsX00 ++ wsX10)
def wsX3_go_r1 : List Cond := [Cond.constant RX3 55 (-100000003), Cond.fieldLink RX3 19 "CloseClocks" "shape" "LCloseClocks$Net;", Cond.fieldLink RX3 28 "CloseClocks" "now" "LCloseClocks$Clocks;", Cond.constant RX3 75 (-100000004), Cond.fieldLink RX3 42 "CloseClocks" "step" "I", Cond.fieldLink RX3 46 "CloseClocks" "boost" "I", Cond.fieldLink RX3 52 "CloseClocks" "ticksEver" "I", Cond.methodLink RX3 121 yX1_isRead, Cond.instanceMethod yX1_isRead, Cond.selects RX1 yX1_isRead yX1_isRead, Cond.initialized RX1, Cond.code yX1_isRead cX1_isRead 1 (some .boolean), Cond.fieldLink RX1 21 "CloseClocks$Net" "nodes" "I", Cond.methodLink RX3 127 yX0_tick, Cond.instanceMethod yX0_tick, Cond.selects RX0 yX0_tick yX0_tick, Cond.initialized RX0, Cond.code yX0_tick cX0_tick 4 none, Cond.fieldLink RX0 44 "CloseClocks$Clocks" "shape" "LCloseClocks$Net;", Cond.fieldLink RX0 21 "CloseClocks$Clocks" "fastTicks" "[I", Cond.fieldLink RX0 18 "CloseClocks$Clocks" "fast" "[I", Cond.fieldLink RX0 30 "CloseClocks$Clocks" "ticks" "I", Cond.fieldLink RX0 34 "CloseClocks$Clocks" "greatestLocal" "I", Cond.methodLink RX0 115 Lib.Math.max.name]
def wsX3_go_r2 : List Cond := [Cond.static Lib.Math.max.name, Cond.initialized "java/lang/Math", Cond.code Lib.Math.max.name Lib.Math.max.code 2 (some .int), Cond.methodLink RX0 126 yX0_move, Cond.instanceMethod yX0_move, Cond.selects RX0 yX0_move yX0_move, Cond.code yX0_move cX0_move 4 none, Cond.constant RX0 37 (-100000001), Cond.fieldLink RX0 9 "CloseClocks$Clocks" "past" "[I", Cond.methodLink RX0 76 arraycopyName, Cond.native arraycopyName, Cond.static arraycopyName, Cond.initialized "java/lang/System", Cond.fieldLink RX0 15 "CloseClocks$Clocks" "rates" "[I", Cond.methodLink RX0 93 yX0_compareGuesses, Cond.instanceMethod yX0_compareGuesses, Cond.selects RX0 yX0_compareGuesses yX0_compareGuesses, Cond.code yX0_compareGuesses cX0_compareGuesses 8 none, Cond.fieldLink RX0 38 "CloseClocks$Clocks" "ahead" "I", Cond.fieldLink RX0 41 "CloseClocks$Clocks" "behind" "I", Cond.methodLink RX0 103 yX0_clockOf, Cond.instanceMethod yX0_clockOf, Cond.selects RX0 yX0_clockOf yX0_clockOf, Cond.code yX0_clockOf cX0_clockOf 2 (some .int)]
def wsX3_go_r3 : List Cond := [Cond.methodLink RX0 109 yX1_neighbourOf, Cond.instanceMethod yX1_neighbourOf, Cond.selects RX1 yX1_neighbourOf yX1_neighbourOf, Cond.code yX1_neighbourOf cX1_neighbourOf 3 (some .int), Cond.fieldLink RX1 15 "CloseClocks$Net" "neighbours" "[I", Cond.static yX3_cell, Cond.initialized RX3, Cond.code yX3_cell cX3_cell 2 (some .int), Cond.methodLink RX0 112 yX0_guess, Cond.instanceMethod yX0_guess, Cond.selects RX0 yX0_guess yX0_guess, Cond.code yX0_guess cX0_guess 5 (some .int), Cond.fieldLink RX0 24 "CloseClocks$Clocks" "delays" "[I", Cond.fieldLink RX0 27 "CloseClocks$Clocks" "errors" "[I", Cond.methodLink RX0 97 yX0_upLevel, Cond.instanceMethod yX0_upLevel, Cond.selects RX0 yX0_upLevel yX0_upLevel, Cond.code yX0_upLevel cX0_upLevel 3 (some .int), Cond.static yX3_levelReaching, Cond.code yX3_levelReaching cX3_levelReaching 2 (some .int), Cond.methodLink RX3 252 yX3_dividedUp, Cond.static yX3_dividedUp, Cond.code yX3_dividedUp cX3_dividedUp 2 (some .int), Cond.methodLink RX0 100 yX0_downLevel]
def wsX3_go_r4 : List Cond := [Cond.instanceMethod yX0_downLevel, Cond.selects RX0 yX0_downLevel yX0_downLevel, Cond.code yX0_downLevel cX0_downLevel 3 (some .int), Cond.methodLink RX0 130 yX0_localSkew, Cond.instanceMethod yX0_localSkew, Cond.selects RX0 yX0_localSkew yX0_localSkew, Cond.code yX0_localSkew cX0_localSkew 1 (some .int), Cond.methodLink RX0 137 yX0_skewByHops, Cond.instanceMethod yX0_skewByHops, Cond.selects RX0 yX0_skewByHops yX0_skewByHops, Cond.code yX0_skewByHops cX0_skewByHops 5 (some .int), Cond.methodLink RX0 143 yX1_hopsOf, Cond.instanceMethod yX1_hopsOf, Cond.selects RX1 yX1_hopsOf yX1_hopsOf, Cond.code yX1_hopsOf cX1_hopsOf 4 (some .int), Cond.fieldLink RX1 18 "CloseClocks$Net" "ways" "[I", Cond.constant RX1 36 (-100000001), Cond.methodLink RX0 140 yX0_skewOf, Cond.instanceMethod yX0_skewOf, Cond.selects RX0 yX0_skewOf yX0_skewOf, Cond.code yX0_skewOf cX0_skewOf 3 (some .int), Cond.methodLink RX0 134 Lib.Math.abs.name, Cond.static Lib.Math.abs.name, Cond.code Lib.Math.abs.name Lib.Math.abs.code 1 (some .int)]
def wsX3_go_r5 : List Cond := [Cond.methodLink RX3 130 yX0_localSkew]
def wsX3_go : List Cond := .code yX3_go cX3_go 3 (some .int) :: ((wsX3_go_r1 ++ (wsX3_go_r2 ++ (wsX3_go_r3 ++ (wsX3_go_r4 ++ wsX3_go_r5)))) ++ wsX30 ++ wsX00 ++ wsX10)
def wsX3_node_r1 : List Cond := [Cond.fieldLink RX3 19 "CloseClocks" "shape" "LCloseClocks$Net;", Cond.constant RX3 90 (-100000002), Cond.fieldLink RX3 28 "CloseClocks" "now" "LCloseClocks$Clocks;", Cond.fieldLink RX3 42 "CloseClocks" "step" "I", Cond.constant RX3 55 (-100000003), Cond.methodLink RX3 86 yX1_hasNode, Cond.instanceMethod yX1_hasNode, Cond.selects RX1 yX1_hasNode yX1_hasNode, Cond.initialized RX1, Cond.code yX1_hasNode cX1_hasNode 2 (some .boolean), Cond.fieldLink RX1 21 "CloseClocks$Net" "nodes" "I", Cond.methodLink RX3 96 yX0_clockOf, Cond.instanceMethod yX0_clockOf, Cond.selects RX0 yX0_clockOf yX0_clockOf, Cond.initialized RX0, Cond.code yX0_clockOf cX0_clockOf 2 (some .int), Cond.fieldLink RX0 9 "CloseClocks$Clocks" "past" "[I", Cond.methodLink RX3 139 yX0_aheadOf, Cond.instanceMethod yX0_aheadOf, Cond.selects RX0 yX0_aheadOf yX0_aheadOf, Cond.code yX0_aheadOf cX0_aheadOf 2 (some .int), Cond.fieldLink RX0 38 "CloseClocks$Clocks" "ahead" "I", Cond.methodLink RX0 93 yX0_compareGuesses, Cond.instanceMethod yX0_compareGuesses]
def wsX3_node_r2 : List Cond := [Cond.selects RX0 yX0_compareGuesses yX0_compareGuesses, Cond.code yX0_compareGuesses cX0_compareGuesses 8 none, Cond.constant RX0 37 (-100000001), Cond.fieldLink RX0 44 "CloseClocks$Clocks" "shape" "LCloseClocks$Net;", Cond.methodLink RX0 115 Lib.Math.max.name, Cond.static Lib.Math.max.name, Cond.initialized "java/lang/Math", Cond.code Lib.Math.max.name Lib.Math.max.code 2 (some .int), Cond.fieldLink RX0 41 "CloseClocks$Clocks" "behind" "I", Cond.methodLink RX0 103 yX0_clockOf, Cond.methodLink RX0 109 yX1_neighbourOf, Cond.instanceMethod yX1_neighbourOf, Cond.selects RX1 yX1_neighbourOf yX1_neighbourOf, Cond.code yX1_neighbourOf cX1_neighbourOf 3 (some .int), Cond.fieldLink RX1 15 "CloseClocks$Net" "neighbours" "[I", Cond.static yX3_cell, Cond.initialized RX3, Cond.code yX3_cell cX3_cell 2 (some .int), Cond.methodLink RX0 112 yX0_guess, Cond.instanceMethod yX0_guess, Cond.selects RX0 yX0_guess yX0_guess, Cond.code yX0_guess cX0_guess 5 (some .int), Cond.fieldLink RX0 24 "CloseClocks$Clocks" "delays" "[I", Cond.fieldLink RX0 27 "CloseClocks$Clocks" "errors" "[I"]
def wsX3_node_r3 : List Cond := [Cond.methodLink RX3 142 yX0_behindOf, Cond.instanceMethod yX0_behindOf, Cond.selects RX0 yX0_behindOf yX0_behindOf, Cond.code yX0_behindOf cX0_behindOf 2 (some .int), Cond.methodLink RX3 145 yX0_leastUp, Cond.instanceMethod yX0_leastUp, Cond.selects RX0 yX0_leastUp yX0_leastUp, Cond.code yX0_leastUp cX0_leastUp 3 (some .int), Cond.methodLink RX0 97 yX0_upLevel, Cond.instanceMethod yX0_upLevel, Cond.selects RX0 yX0_upLevel yX0_upLevel, Cond.code yX0_upLevel cX0_upLevel 3 (some .int), Cond.static yX3_levelReaching, Cond.code yX3_levelReaching cX3_levelReaching 2 (some .int), Cond.methodLink RX3 252 yX3_dividedUp, Cond.static yX3_dividedUp, Cond.code yX3_dividedUp cX3_dividedUp 2 (some .int), Cond.methodLink RX3 148 yX0_leastDown, Cond.instanceMethod yX0_leastDown, Cond.selects RX0 yX0_leastDown yX0_leastDown, Cond.code yX0_leastDown cX0_leastDown 3 (some .int), Cond.methodLink RX0 100 yX0_downLevel, Cond.instanceMethod yX0_downLevel, Cond.selects RX0 yX0_downLevel yX0_downLevel]
def wsX3_node_r4 : List Cond := [Cond.code yX0_downLevel cX0_downLevel 3 (some .int)]
def wsX3_node : List Cond := .code yX3_node cX3_node 3 (some .int) :: ((wsX3_node_r1 ++ (wsX3_node_r2 ++ (wsX3_node_r3 ++ wsX3_node_r4))) ++ wsX30 ++ wsX00 ++ wsX10)
def wsX3_link_r1 : List Cond := [Cond.fieldLink RX3 19 "CloseClocks" "shape" "LCloseClocks$Net;", Cond.constant RX3 90 (-100000002), Cond.fieldLink RX3 28 "CloseClocks" "now" "LCloseClocks$Clocks;", Cond.constant RX3 55 (-100000003), Cond.methodLink RX3 103 yX1_hasLink, Cond.instanceMethod yX1_hasLink, Cond.selects RX1 yX1_hasLink yX1_hasLink, Cond.initialized RX1, Cond.code yX1_hasLink cX1_hasLink 3 (some .boolean), Cond.fieldLink RX1 18 "CloseClocks$Net" "ways" "[I", Cond.methodLink RX1 28 yX1_hasNode, Cond.instanceMethod yX1_hasNode, Cond.selects RX1 yX1_hasNode yX1_hasNode, Cond.code yX1_hasNode cX1_hasNode 2 (some .boolean), Cond.fieldLink RX1 21 "CloseClocks$Net" "nodes" "I", Cond.static yX3_cell, Cond.initialized RX3, Cond.code yX3_cell cX3_cell 2 (some .int), Cond.methodLink RX3 110 yX3_cell, Cond.methodLink RX3 154 yX0_guess, Cond.instanceMethod yX0_guess, Cond.selects RX0 yX0_guess yX0_guess, Cond.initialized RX0, Cond.code yX0_guess cX0_guess 5 (some .int)]
def wsX3_link_r2 : List Cond := [Cond.fieldLink RX0 24 "CloseClocks$Clocks" "delays" "[I", Cond.fieldLink RX0 9 "CloseClocks$Clocks" "past" "[I", Cond.fieldLink RX0 27 "CloseClocks$Clocks" "errors" "[I", Cond.methodLink RX3 157 yX0_skewOf, Cond.instanceMethod yX0_skewOf, Cond.selects RX0 yX0_skewOf yX0_skewOf, Cond.code yX0_skewOf cX0_skewOf 3 (some .int), Cond.methodLink RX0 134 Lib.Math.abs.name, Cond.static Lib.Math.abs.name, Cond.initialized "java/lang/Math", Cond.code Lib.Math.abs.name Lib.Math.abs.code 1 (some .int), Cond.methodLink RX0 103 yX0_clockOf, Cond.instanceMethod yX0_clockOf, Cond.selects RX0 yX0_clockOf yX0_clockOf, Cond.code yX0_clockOf cX0_clockOf 2 (some .int)]
def wsX3_link : List Cond := .code yX3_link cX3_link 4 (some .int) :: ((wsX3_link_r1 ++ wsX3_link_r2) ++ wsX30 ++ wsX00 ++ wsX10)
def wsX3_hops : List Cond := .code yX3_hops cX3_hops 3 (some .int) :: ([.fieldLink RX3 19 "CloseClocks" "shape" "LCloseClocks$Net;", .constant RX3 90 (-100000002), .methodLink RX3 86 yX1_hasNode, .instanceMethod yX1_hasNode, .selects RX1 yX1_hasNode yX1_hasNode, .initialized RX1, .code yX1_hasNode cX1_hasNode 2 (some .boolean), .fieldLink RX1 21 "CloseClocks$Net" "nodes" "I", .methodLink RX3 160 yX1_hopsOf, .instanceMethod yX1_hopsOf, .selects RX1 yX1_hopsOf yX1_hopsOf, .code yX1_hopsOf cX1_hopsOf 4 (some .int), .fieldLink RX1 18 "CloseClocks$Net" "ways" "[I", .constant RX1 36 (-100000001), .static yX3_cell, .initialized RX3, .code yX3_cell cX3_cell 2 (some .int)] ++ wsX30 ++ wsX10)
def wsX3_skew_r1 : List Cond := [Cond.constant RX3 55 (-100000003), Cond.fieldLink RX3 19 "CloseClocks" "shape" "LCloseClocks$Net;", Cond.constant RX3 75 (-100000004), Cond.fieldLink RX3 28 "CloseClocks" "now" "LCloseClocks$Clocks;", Cond.fieldLink RX3 42 "CloseClocks" "step" "I", Cond.methodLink RX3 121 yX1_isRead, Cond.instanceMethod yX1_isRead, Cond.selects RX1 yX1_isRead yX1_isRead, Cond.initialized RX1, Cond.code yX1_isRead cX1_isRead 1 (some .boolean), Cond.fieldLink RX1 21 "CloseClocks$Net" "nodes" "I", Cond.methodLink RX3 130 yX0_localSkew, Cond.instanceMethod yX0_localSkew, Cond.selects RX0 yX0_localSkew yX0_localSkew, Cond.initialized RX0, Cond.code yX0_localSkew cX0_localSkew 1 (some .int), Cond.methodLink RX0 137 yX0_skewByHops, Cond.instanceMethod yX0_skewByHops, Cond.selects RX0 yX0_skewByHops yX0_skewByHops, Cond.code yX0_skewByHops cX0_skewByHops 5 (some .int), Cond.constant RX0 37 (-100000001), Cond.fieldLink RX0 44 "CloseClocks$Clocks" "shape" "LCloseClocks$Net;", Cond.methodLink RX0 115 Lib.Math.max.name, Cond.static Lib.Math.max.name]
def wsX3_skew_r2 : List Cond := [Cond.initialized "java/lang/Math", Cond.code Lib.Math.max.name Lib.Math.max.code 2 (some .int), Cond.methodLink RX0 143 yX1_hopsOf, Cond.instanceMethod yX1_hopsOf, Cond.selects RX1 yX1_hopsOf yX1_hopsOf, Cond.code yX1_hopsOf cX1_hopsOf 4 (some .int), Cond.fieldLink RX1 18 "CloseClocks$Net" "ways" "[I", Cond.constant RX1 36 (-100000001), Cond.static yX3_cell, Cond.initialized RX3, Cond.code yX3_cell cX3_cell 2 (some .int), Cond.methodLink RX0 140 yX0_skewOf, Cond.instanceMethod yX0_skewOf, Cond.selects RX0 yX0_skewOf yX0_skewOf, Cond.code yX0_skewOf cX0_skewOf 3 (some .int), Cond.methodLink RX0 134 Lib.Math.abs.name, Cond.static Lib.Math.abs.name, Cond.code Lib.Math.abs.name Lib.Math.abs.code 1 (some .int), Cond.methodLink RX0 103 yX0_clockOf, Cond.instanceMethod yX0_clockOf, Cond.selects RX0 yX0_clockOf yX0_clockOf, Cond.code yX0_clockOf cX0_clockOf 2 (some .int), Cond.fieldLink RX0 9 "CloseClocks$Clocks" "past" "[I", Cond.methodLink RX3 163 yX0_globalSkew]
def wsX3_skew_r3 : List Cond := [Cond.instanceMethod yX0_globalSkew, Cond.selects RX0 yX0_globalSkew yX0_globalSkew, Cond.code yX0_globalSkew cX0_globalSkew 4 (some .int), Cond.methodLink RX3 166 yX3_levelReaching, Cond.static yX3_levelReaching, Cond.code yX3_levelReaching cX3_levelReaching 2 (some .int), Cond.methodLink RX3 252 yX3_dividedUp, Cond.static yX3_dividedUp, Cond.code yX3_dividedUp cX3_dividedUp 2 (some .int)]
def wsX3_skew : List Cond := .code yX3_skew cX3_skew 2 (some .int) :: ((wsX3_skew_r1 ++ (wsX3_skew_r2 ++ wsX3_skew_r3)) ++ wsX30 ++ wsX00 ++ wsX10)
def wsX3_spread_r1 : List Cond := [Cond.constant RX3 55 (-100000003), Cond.fieldLink RX3 19 "CloseClocks" "shape" "LCloseClocks$Net;", Cond.constant RX3 75 (-100000004), Cond.fieldLink RX3 28 "CloseClocks" "now" "LCloseClocks$Clocks;", Cond.methodLink RX3 121 yX1_isRead, Cond.instanceMethod yX1_isRead, Cond.selects RX1 yX1_isRead yX1_isRead, Cond.initialized RX1, Cond.code yX1_isRead cX1_isRead 1 (some .boolean), Cond.fieldLink RX1 21 "CloseClocks$Net" "nodes" "I", Cond.methodLink RX3 172 yX0_skewByHops, Cond.instanceMethod yX0_skewByHops, Cond.selects RX0 yX0_skewByHops yX0_skewByHops, Cond.initialized RX0, Cond.code yX0_skewByHops cX0_skewByHops 5 (some .int), Cond.constant RX0 37 (-100000001), Cond.fieldLink RX0 44 "CloseClocks$Clocks" "shape" "LCloseClocks$Net;", Cond.methodLink RX0 115 Lib.Math.max.name, Cond.static Lib.Math.max.name, Cond.initialized "java/lang/Math", Cond.code Lib.Math.max.name Lib.Math.max.code 2 (some .int), Cond.methodLink RX0 143 yX1_hopsOf, Cond.instanceMethod yX1_hopsOf, Cond.selects RX1 yX1_hopsOf yX1_hopsOf]
def wsX3_spread_r2 : List Cond := [Cond.code yX1_hopsOf cX1_hopsOf 4 (some .int), Cond.fieldLink RX1 18 "CloseClocks$Net" "ways" "[I", Cond.constant RX1 36 (-100000001), Cond.static yX3_cell, Cond.initialized RX3, Cond.code yX3_cell cX3_cell 2 (some .int), Cond.methodLink RX0 140 yX0_skewOf, Cond.instanceMethod yX0_skewOf, Cond.selects RX0 yX0_skewOf yX0_skewOf, Cond.code yX0_skewOf cX0_skewOf 3 (some .int), Cond.methodLink RX0 134 Lib.Math.abs.name, Cond.static Lib.Math.abs.name, Cond.code Lib.Math.abs.name Lib.Math.abs.code 1 (some .int), Cond.methodLink RX0 103 yX0_clockOf, Cond.instanceMethod yX0_clockOf, Cond.selects RX0 yX0_clockOf yX0_clockOf, Cond.code yX0_clockOf cX0_clockOf 2 (some .int), Cond.fieldLink RX0 9 "CloseClocks$Clocks" "past" "[I"]
def wsX3_spread : List Cond := .code yX3_spread cX3_spread 2 (some .int) :: ((wsX3_spread_r1 ++ wsX3_spread_r2) ++ wsX30 ++ wsX10 ++ wsX00)
def wsX3_searchWorst_r1 : List Cond := [Cond.fieldLink RX3 35 "CloseClocks" "trial" "LCloseClocks$Clocks;", Cond.fieldLink RX3 28 "CloseClocks" "now" "LCloseClocks$Clocks;", Cond.fieldLink RX3 19 "CloseClocks" "shape" "LCloseClocks$Net;", Cond.fieldLink RX3 42 "CloseClocks" "step" "I", Cond.fieldLink RX3 46 "CloseClocks" "boost" "I", Cond.methodLink RX3 186 yX0_copyAll, Cond.instanceMethod yX0_copyAll, Cond.selects RX0 yX0_copyAll yX0_copyAll, Cond.initialized RX0, Cond.code yX0_copyAll cX0_copyAll 2 none, Cond.fieldLink RX0 15 "CloseClocks$Clocks" "rates" "[I", Cond.methodLink RX0 76 arraycopyName, Cond.native arraycopyName, Cond.static arraycopyName, Cond.initialized "java/lang/System", Cond.fieldLink RX0 21 "CloseClocks$Clocks" "fastTicks" "[I", Cond.fieldLink RX0 24 "CloseClocks$Clocks" "delays" "[I", Cond.fieldLink RX0 27 "CloseClocks$Clocks" "errors" "[I", Cond.fieldLink RX0 30 "CloseClocks$Clocks" "ticks" "I", Cond.fieldLink RX0 34 "CloseClocks$Clocks" "greatestLocal" "I", Cond.methodLink RX0 72 yX0_copyMotion, Cond.instanceMethod yX0_copyMotion, Cond.selects RX0 yX0_copyMotion yX0_copyMotion, Cond.code yX0_copyMotion cX0_copyMotion 2 none]
def wsX3_searchWorst_r2 : List Cond := [Cond.fieldLink RX0 9 "CloseClocks$Clocks" "past" "[I", Cond.fieldLink RX0 18 "CloseClocks$Clocks" "fast" "[I", Cond.methodLink RX3 240 yX0_copyMotion, Cond.methodLink RX3 243 yX0_tellRates, Cond.instanceMethod yX0_tellRates, Cond.selects RX0 yX0_tellRates yX0_tellRates, Cond.code yX0_tellRates cX0_tellRates 3 none, Cond.fieldLink RX0 44 "CloseClocks$Clocks" "shape" "LCloseClocks$Net;", Cond.methodLink RX3 247 yX0_move, Cond.instanceMethod yX0_move, Cond.selects RX0 yX0_move yX0_move, Cond.code yX0_move cX0_move 4 none, Cond.constant RX0 37 (-100000001), Cond.methodLink RX0 93 yX0_compareGuesses, Cond.instanceMethod yX0_compareGuesses, Cond.selects RX0 yX0_compareGuesses yX0_compareGuesses, Cond.code yX0_compareGuesses cX0_compareGuesses 8 none, Cond.methodLink RX0 115 Lib.Math.max.name, Cond.static Lib.Math.max.name, Cond.initialized "java/lang/Math", Cond.code Lib.Math.max.name Lib.Math.max.code 2 (some .int), Cond.fieldLink RX0 38 "CloseClocks$Clocks" "ahead" "I", Cond.fieldLink RX0 41 "CloseClocks$Clocks" "behind" "I", Cond.methodLink RX0 103 yX0_clockOf]
def wsX3_searchWorst_r3 : List Cond := [Cond.instanceMethod yX0_clockOf, Cond.selects RX0 yX0_clockOf yX0_clockOf, Cond.code yX0_clockOf cX0_clockOf 2 (some .int), Cond.methodLink RX0 109 yX1_neighbourOf, Cond.instanceMethod yX1_neighbourOf, Cond.selects RX1 yX1_neighbourOf yX1_neighbourOf, Cond.initialized RX1, Cond.code yX1_neighbourOf cX1_neighbourOf 3 (some .int), Cond.fieldLink RX1 15 "CloseClocks$Net" "neighbours" "[I", Cond.static yX3_cell, Cond.initialized RX3, Cond.code yX3_cell cX3_cell 2 (some .int), Cond.methodLink RX0 112 yX0_guess, Cond.instanceMethod yX0_guess, Cond.selects RX0 yX0_guess yX0_guess, Cond.code yX0_guess cX0_guess 5 (some .int), Cond.methodLink RX0 97 yX0_upLevel, Cond.instanceMethod yX0_upLevel, Cond.selects RX0 yX0_upLevel yX0_upLevel, Cond.code yX0_upLevel cX0_upLevel 3 (some .int), Cond.static yX3_levelReaching, Cond.code yX3_levelReaching cX3_levelReaching 2 (some .int), Cond.methodLink RX3 252 yX3_dividedUp, Cond.static yX3_dividedUp]
def wsX3_searchWorst_r4 : List Cond := [Cond.code yX3_dividedUp cX3_dividedUp 2 (some .int), Cond.methodLink RX0 100 yX0_downLevel, Cond.instanceMethod yX0_downLevel, Cond.selects RX0 yX0_downLevel yX0_downLevel, Cond.code yX0_downLevel cX0_downLevel 3 (some .int), Cond.methodLink RX3 130 yX0_localSkew, Cond.instanceMethod yX0_localSkew, Cond.selects RX0 yX0_localSkew yX0_localSkew, Cond.code yX0_localSkew cX0_localSkew 1 (some .int), Cond.methodLink RX0 137 yX0_skewByHops, Cond.instanceMethod yX0_skewByHops, Cond.selects RX0 yX0_skewByHops yX0_skewByHops, Cond.code yX0_skewByHops cX0_skewByHops 5 (some .int), Cond.methodLink RX0 143 yX1_hopsOf, Cond.instanceMethod yX1_hopsOf, Cond.selects RX1 yX1_hopsOf yX1_hopsOf, Cond.code yX1_hopsOf cX1_hopsOf 4 (some .int), Cond.fieldLink RX1 18 "CloseClocks$Net" "ways" "[I", Cond.constant RX1 36 (-100000001), Cond.methodLink RX0 140 yX0_skewOf, Cond.instanceMethod yX0_skewOf, Cond.selects RX0 yX0_skewOf yX0_skewOf, Cond.code yX0_skewOf cX0_skewOf 3 (some .int), Cond.methodLink RX0 134 Lib.Math.abs.name]
def wsX3_searchWorst_r5 : List Cond := [Cond.static Lib.Math.abs.name, Cond.code Lib.Math.abs.name Lib.Math.abs.code 1 (some .int)]
def wsX3_searchWorst : List Cond := .code yX3_searchWorst cX3_searchWorst 6 (some .long) :: ((wsX3_searchWorst_r1 ++ (wsX3_searchWorst_r2 ++ (wsX3_searchWorst_r3 ++ (wsX3_searchWorst_r4 ++ wsX3_searchWorst_r5)))) ++ wsX30 ++ wsX10 ++ wsX00)
def wsX3_skewOfWorst : List Cond := .code yX3_skewOfWorst cX3_skewOfWorst 2 (some .int) :: ([])
def wsX3_nodesOfWorst : List Cond := .code yX3_nodesOfWorst cX3_nodesOfWorst 2 (some .int) :: ([.constantLong RX3 250 (63)])
def wsX3_worst_r1 : List Cond := [Cond.constant RX3 55 (-100000003), Cond.fieldLink RX3 19 "CloseClocks" "shape" "LCloseClocks$Net;", Cond.constant RX3 75 (-100000004), Cond.methodLink RX3 121 yX1_isRead, Cond.instanceMethod yX1_isRead, Cond.selects RX1 yX1_isRead yX1_isRead, Cond.initialized RX1, Cond.code yX1_isRead cX1_isRead 1 (some .boolean), Cond.fieldLink RX1 21 "CloseClocks$Net" "nodes" "I", Cond.methodLink RX3 175 yX3_searchWorst, Cond.instanceMethod yX3_searchWorst, Cond.selects RX3 yX3_searchWorst yX3_searchWorst, Cond.initialized RX3, Cond.code yX3_searchWorst cX3_searchWorst 6 (some .long), Cond.fieldLink RX3 35 "CloseClocks" "trial" "LCloseClocks$Clocks;", Cond.fieldLink RX3 28 "CloseClocks" "now" "LCloseClocks$Clocks;", Cond.fieldLink RX3 42 "CloseClocks" "step" "I", Cond.fieldLink RX3 46 "CloseClocks" "boost" "I", Cond.methodLink RX3 186 yX0_copyAll, Cond.instanceMethod yX0_copyAll, Cond.selects RX0 yX0_copyAll yX0_copyAll, Cond.initialized RX0, Cond.code yX0_copyAll cX0_copyAll 2 none, Cond.fieldLink RX0 15 "CloseClocks$Clocks" "rates" "[I"]
def wsX3_worst_r2 : List Cond := [Cond.methodLink RX0 76 arraycopyName, Cond.native arraycopyName, Cond.static arraycopyName, Cond.initialized "java/lang/System", Cond.fieldLink RX0 21 "CloseClocks$Clocks" "fastTicks" "[I", Cond.fieldLink RX0 24 "CloseClocks$Clocks" "delays" "[I", Cond.fieldLink RX0 27 "CloseClocks$Clocks" "errors" "[I", Cond.fieldLink RX0 30 "CloseClocks$Clocks" "ticks" "I", Cond.fieldLink RX0 34 "CloseClocks$Clocks" "greatestLocal" "I", Cond.methodLink RX0 72 yX0_copyMotion, Cond.instanceMethod yX0_copyMotion, Cond.selects RX0 yX0_copyMotion yX0_copyMotion, Cond.code yX0_copyMotion cX0_copyMotion 2 none, Cond.fieldLink RX0 9 "CloseClocks$Clocks" "past" "[I", Cond.fieldLink RX0 18 "CloseClocks$Clocks" "fast" "[I", Cond.methodLink RX3 240 yX0_copyMotion, Cond.methodLink RX3 243 yX0_tellRates, Cond.instanceMethod yX0_tellRates, Cond.selects RX0 yX0_tellRates yX0_tellRates, Cond.code yX0_tellRates cX0_tellRates 3 none, Cond.fieldLink RX0 44 "CloseClocks$Clocks" "shape" "LCloseClocks$Net;", Cond.methodLink RX3 247 yX0_move, Cond.instanceMethod yX0_move, Cond.selects RX0 yX0_move yX0_move]
def wsX3_worst_r3 : List Cond := [Cond.code yX0_move cX0_move 4 none, Cond.constant RX0 37 (-100000001), Cond.methodLink RX0 93 yX0_compareGuesses, Cond.instanceMethod yX0_compareGuesses, Cond.selects RX0 yX0_compareGuesses yX0_compareGuesses, Cond.code yX0_compareGuesses cX0_compareGuesses 8 none, Cond.methodLink RX0 115 Lib.Math.max.name, Cond.static Lib.Math.max.name, Cond.initialized "java/lang/Math", Cond.code Lib.Math.max.name Lib.Math.max.code 2 (some .int), Cond.fieldLink RX0 38 "CloseClocks$Clocks" "ahead" "I", Cond.fieldLink RX0 41 "CloseClocks$Clocks" "behind" "I", Cond.methodLink RX0 103 yX0_clockOf, Cond.instanceMethod yX0_clockOf, Cond.selects RX0 yX0_clockOf yX0_clockOf, Cond.code yX0_clockOf cX0_clockOf 2 (some .int), Cond.methodLink RX0 109 yX1_neighbourOf, Cond.instanceMethod yX1_neighbourOf, Cond.selects RX1 yX1_neighbourOf yX1_neighbourOf, Cond.code yX1_neighbourOf cX1_neighbourOf 3 (some .int), Cond.fieldLink RX1 15 "CloseClocks$Net" "neighbours" "[I", Cond.static yX3_cell, Cond.code yX3_cell cX3_cell 2 (some .int), Cond.methodLink RX0 112 yX0_guess]
def wsX3_worst_r4 : List Cond := [Cond.instanceMethod yX0_guess, Cond.selects RX0 yX0_guess yX0_guess, Cond.code yX0_guess cX0_guess 5 (some .int), Cond.methodLink RX0 97 yX0_upLevel, Cond.instanceMethod yX0_upLevel, Cond.selects RX0 yX0_upLevel yX0_upLevel, Cond.code yX0_upLevel cX0_upLevel 3 (some .int), Cond.static yX3_levelReaching, Cond.code yX3_levelReaching cX3_levelReaching 2 (some .int), Cond.methodLink RX3 252 yX3_dividedUp, Cond.static yX3_dividedUp, Cond.code yX3_dividedUp cX3_dividedUp 2 (some .int), Cond.methodLink RX0 100 yX0_downLevel, Cond.instanceMethod yX0_downLevel, Cond.selects RX0 yX0_downLevel yX0_downLevel, Cond.code yX0_downLevel cX0_downLevel 3 (some .int), Cond.methodLink RX3 130 yX0_localSkew, Cond.instanceMethod yX0_localSkew, Cond.selects RX0 yX0_localSkew yX0_localSkew, Cond.code yX0_localSkew cX0_localSkew 1 (some .int), Cond.methodLink RX0 137 yX0_skewByHops, Cond.instanceMethod yX0_skewByHops, Cond.selects RX0 yX0_skewByHops yX0_skewByHops, Cond.code yX0_skewByHops cX0_skewByHops 5 (some .int)]
def wsX3_worst_r5 : List Cond := [Cond.methodLink RX0 143 yX1_hopsOf, Cond.instanceMethod yX1_hopsOf, Cond.selects RX1 yX1_hopsOf yX1_hopsOf, Cond.code yX1_hopsOf cX1_hopsOf 4 (some .int), Cond.fieldLink RX1 18 "CloseClocks$Net" "ways" "[I", Cond.constant RX1 36 (-100000001), Cond.methodLink RX0 140 yX0_skewOf, Cond.instanceMethod yX0_skewOf, Cond.selects RX0 yX0_skewOf yX0_skewOf, Cond.code yX0_skewOf cX0_skewOf 3 (some .int), Cond.methodLink RX0 134 Lib.Math.abs.name, Cond.static Lib.Math.abs.name, Cond.code Lib.Math.abs.name Lib.Math.abs.code 1 (some .int), Cond.methodLink RX3 179 yX3_skewOfWorst, Cond.static yX3_skewOfWorst, Cond.code yX3_skewOfWorst cX3_skewOfWorst 2 (some .int), Cond.methodLink RX3 183 yX3_nodesOfWorst, Cond.static yX3_nodesOfWorst, Cond.code yX3_nodesOfWorst cX3_nodesOfWorst 2 (some .int), Cond.constantLong RX3 250 (63)]
def wsX3_worst : List Cond := .code yX3_worst cX3_worst 5 (some .int) :: ((wsX3_worst_r1 ++ (wsX3_worst_r2 ++ (wsX3_worst_r3 ++ (wsX3_worst_r4 ++ wsX3_worst_r5)))) ++ wsX30 ++ wsX10 ++ wsX00)
def wsX3_image_r1 : List Cond := [Cond.fieldLink RX3 19 "CloseClocks" "shape" "LCloseClocks$Net;", Cond.constant RX3 75 (-100000004), Cond.fieldLink RX3 32 "CloseClocks" "kept" "LCloseClocks$Clocks;", Cond.fieldLink RX3 28 "CloseClocks" "now" "LCloseClocks$Clocks;", Cond.fieldLink RX3 38 "CloseClocks" "imageKept" "Z", Cond.methodLink RX3 121 yX1_isRead, Cond.instanceMethod yX1_isRead, Cond.selects RX1 yX1_isRead yX1_isRead, Cond.initialized RX1, Cond.code yX1_isRead cX1_isRead 1 (some .boolean), Cond.fieldLink RX1 21 "CloseClocks$Net" "nodes" "I", Cond.methodLink RX3 186 yX0_copyAll, Cond.instanceMethod yX0_copyAll, Cond.selects RX0 yX0_copyAll yX0_copyAll, Cond.initialized RX0, Cond.code yX0_copyAll cX0_copyAll 2 none, Cond.fieldLink RX0 15 "CloseClocks$Clocks" "rates" "[I", Cond.methodLink RX0 76 arraycopyName, Cond.native arraycopyName, Cond.static arraycopyName, Cond.initialized "java/lang/System", Cond.fieldLink RX0 21 "CloseClocks$Clocks" "fastTicks" "[I", Cond.fieldLink RX0 24 "CloseClocks$Clocks" "delays" "[I", Cond.fieldLink RX0 27 "CloseClocks$Clocks" "errors" "[I"]
def wsX3_image_r2 : List Cond := [Cond.fieldLink RX0 30 "CloseClocks$Clocks" "ticks" "I", Cond.fieldLink RX0 34 "CloseClocks$Clocks" "greatestLocal" "I", Cond.methodLink RX0 72 yX0_copyMotion, Cond.instanceMethod yX0_copyMotion, Cond.selects RX0 yX0_copyMotion yX0_copyMotion, Cond.code yX0_copyMotion cX0_copyMotion 2 none, Cond.fieldLink RX0 9 "CloseClocks$Clocks" "past" "[I", Cond.fieldLink RX0 18 "CloseClocks$Clocks" "fast" "[I"]
def wsX3_image : List Cond := .code yX3_image cX3_image 1 (some .int) :: ((wsX3_image_r1 ++ wsX3_image_r2) ++ wsX30 ++ wsX00 ++ wsX10)
def wsX3_restore_r1 : List Cond := [Cond.fieldLink RX3 38 "CloseClocks" "imageKept" "Z", Cond.constant RX3 75 (-100000004), Cond.fieldLink RX3 28 "CloseClocks" "now" "LCloseClocks$Clocks;", Cond.fieldLink RX3 32 "CloseClocks" "kept" "LCloseClocks$Clocks;", Cond.methodLink RX3 186 yX0_copyAll, Cond.instanceMethod yX0_copyAll, Cond.selects RX0 yX0_copyAll yX0_copyAll, Cond.initialized RX0, Cond.code yX0_copyAll cX0_copyAll 2 none, Cond.fieldLink RX0 15 "CloseClocks$Clocks" "rates" "[I", Cond.methodLink RX0 76 arraycopyName, Cond.native arraycopyName, Cond.static arraycopyName, Cond.initialized "java/lang/System", Cond.fieldLink RX0 21 "CloseClocks$Clocks" "fastTicks" "[I", Cond.fieldLink RX0 24 "CloseClocks$Clocks" "delays" "[I", Cond.fieldLink RX0 27 "CloseClocks$Clocks" "errors" "[I", Cond.fieldLink RX0 30 "CloseClocks$Clocks" "ticks" "I", Cond.fieldLink RX0 34 "CloseClocks$Clocks" "greatestLocal" "I", Cond.methodLink RX0 72 yX0_copyMotion, Cond.instanceMethod yX0_copyMotion, Cond.selects RX0 yX0_copyMotion yX0_copyMotion, Cond.code yX0_copyMotion cX0_copyMotion 2 none, Cond.fieldLink RX0 9 "CloseClocks$Clocks" "past" "[I"]
def wsX3_restore_r2 : List Cond := [Cond.fieldLink RX0 18 "CloseClocks$Clocks" "fast" "[I"]
def wsX3_restore : List Cond := .code yX3_restore cX3_restore 1 (some .int) :: ((wsX3_restore_r1 ++ wsX3_restore_r2) ++ wsX30 ++ wsX00)
def wsX3_count : List Cond := .code yX3_count cX3_count 2 (some .int) :: ([.fieldLink RX3 19 "CloseClocks" "shape" "LCloseClocks$Net;", .fieldLink RX3 10 "CloseClocks" "page" "LCloseClocks$Page;", .fieldLink RX3 28 "CloseClocks" "now" "LCloseClocks$Clocks;", .fieldLink RX3 42 "CloseClocks" "step" "I", .fieldLink RX3 46 "CloseClocks" "boost" "I", .fieldLink RX3 49 "CloseClocks" "netsRead" "I", .fieldLink RX3 52 "CloseClocks" "ticksEver" "I", .constant RX3 55 (-100000003), .methodLink RX3 196 yX0_howManyFast, .instanceMethod yX0_howManyFast, .selects RX0 yX0_howManyFast yX0_howManyFast, .initialized RX0, .code yX0_howManyFast cX0_howManyFast 3 (some .int), .fieldLink RX0 44 "CloseClocks$Clocks" "shape" "LCloseClocks$Net;", .fieldLink RX0 18 "CloseClocks$Clocks" "fast" "[I"] ++ wsX30 ++ wsX10 ++ wsX20 ++ wsX00)
def wsX3_mix : List Cond := .code yX3_mix cX3_mix 3 (some .long) :: ([.constantLong RX3 238 (31)])
def wsX3_mixNodes_r1 : List Cond := [Cond.fieldLink RX3 19 "CloseClocks" "shape" "LCloseClocks$Net;", Cond.methodLink RX3 221 yX3_node, Cond.instanceMethod yX3_node, Cond.selects RX3 yX3_node yX3_node, Cond.initialized RX3, Cond.code yX3_node cX3_node 3 (some .int), Cond.constant RX3 90 (-100000002), Cond.fieldLink RX3 28 "CloseClocks" "now" "LCloseClocks$Clocks;", Cond.fieldLink RX3 42 "CloseClocks" "step" "I", Cond.constant RX3 55 (-100000003), Cond.methodLink RX3 86 yX1_hasNode, Cond.instanceMethod yX1_hasNode, Cond.selects RX1 yX1_hasNode yX1_hasNode, Cond.initialized RX1, Cond.code yX1_hasNode cX1_hasNode 2 (some .boolean), Cond.fieldLink RX1 21 "CloseClocks$Net" "nodes" "I", Cond.methodLink RX3 96 yX0_clockOf, Cond.instanceMethod yX0_clockOf, Cond.selects RX0 yX0_clockOf yX0_clockOf, Cond.initialized RX0, Cond.code yX0_clockOf cX0_clockOf 2 (some .int), Cond.fieldLink RX0 9 "CloseClocks$Clocks" "past" "[I", Cond.methodLink RX3 139 yX0_aheadOf, Cond.instanceMethod yX0_aheadOf]
def wsX3_mixNodes_r2 : List Cond := [Cond.selects RX0 yX0_aheadOf yX0_aheadOf, Cond.code yX0_aheadOf cX0_aheadOf 2 (some .int), Cond.fieldLink RX0 38 "CloseClocks$Clocks" "ahead" "I", Cond.methodLink RX0 93 yX0_compareGuesses, Cond.instanceMethod yX0_compareGuesses, Cond.selects RX0 yX0_compareGuesses yX0_compareGuesses, Cond.code yX0_compareGuesses cX0_compareGuesses 8 none, Cond.constant RX0 37 (-100000001), Cond.fieldLink RX0 44 "CloseClocks$Clocks" "shape" "LCloseClocks$Net;", Cond.methodLink RX0 115 Lib.Math.max.name, Cond.static Lib.Math.max.name, Cond.initialized "java/lang/Math", Cond.code Lib.Math.max.name Lib.Math.max.code 2 (some .int), Cond.fieldLink RX0 41 "CloseClocks$Clocks" "behind" "I", Cond.methodLink RX0 103 yX0_clockOf, Cond.methodLink RX0 109 yX1_neighbourOf, Cond.instanceMethod yX1_neighbourOf, Cond.selects RX1 yX1_neighbourOf yX1_neighbourOf, Cond.code yX1_neighbourOf cX1_neighbourOf 3 (some .int), Cond.fieldLink RX1 15 "CloseClocks$Net" "neighbours" "[I", Cond.static yX3_cell, Cond.code yX3_cell cX3_cell 2 (some .int), Cond.methodLink RX0 112 yX0_guess, Cond.instanceMethod yX0_guess]
def wsX3_mixNodes_r3 : List Cond := [Cond.selects RX0 yX0_guess yX0_guess, Cond.code yX0_guess cX0_guess 5 (some .int), Cond.fieldLink RX0 24 "CloseClocks$Clocks" "delays" "[I", Cond.fieldLink RX0 27 "CloseClocks$Clocks" "errors" "[I", Cond.methodLink RX3 142 yX0_behindOf, Cond.instanceMethod yX0_behindOf, Cond.selects RX0 yX0_behindOf yX0_behindOf, Cond.code yX0_behindOf cX0_behindOf 2 (some .int), Cond.methodLink RX3 145 yX0_leastUp, Cond.instanceMethod yX0_leastUp, Cond.selects RX0 yX0_leastUp yX0_leastUp, Cond.code yX0_leastUp cX0_leastUp 3 (some .int), Cond.methodLink RX0 97 yX0_upLevel, Cond.instanceMethod yX0_upLevel, Cond.selects RX0 yX0_upLevel yX0_upLevel, Cond.code yX0_upLevel cX0_upLevel 3 (some .int), Cond.static yX3_levelReaching, Cond.code yX3_levelReaching cX3_levelReaching 2 (some .int), Cond.methodLink RX3 252 yX3_dividedUp, Cond.static yX3_dividedUp, Cond.code yX3_dividedUp cX3_dividedUp 2 (some .int), Cond.methodLink RX3 148 yX0_leastDown, Cond.instanceMethod yX0_leastDown, Cond.selects RX0 yX0_leastDown yX0_leastDown]
def wsX3_mixNodes_r4 : List Cond := [Cond.code yX0_leastDown cX0_leastDown 3 (some .int), Cond.methodLink RX0 100 yX0_downLevel, Cond.instanceMethod yX0_downLevel, Cond.selects RX0 yX0_downLevel yX0_downLevel, Cond.code yX0_downLevel cX0_downLevel 3 (some .int), Cond.methodLink RX3 214 yX3_mix, Cond.static yX3_mix, Cond.code yX3_mix cX3_mix 3 (some .long), Cond.constantLong RX3 238 (31)]
def wsX3_mixNodes : List Cond := .code yX3_mixNodes cX3_mixNodes 7 (some .long) :: ((wsX3_mixNodes_r1 ++ (wsX3_mixNodes_r2 ++ (wsX3_mixNodes_r3 ++ wsX3_mixNodes_r4))) ++ wsX30 ++ wsX10 ++ wsX00)
def wsX3_mixLink_r1 : List Cond := [Cond.methodLink RX3 228 yX3_link, Cond.instanceMethod yX3_link, Cond.selects RX3 yX3_link yX3_link, Cond.initialized RX3, Cond.code yX3_link cX3_link 4 (some .int), Cond.fieldLink RX3 19 "CloseClocks" "shape" "LCloseClocks$Net;", Cond.constant RX3 90 (-100000002), Cond.fieldLink RX3 28 "CloseClocks" "now" "LCloseClocks$Clocks;", Cond.constant RX3 55 (-100000003), Cond.methodLink RX3 103 yX1_hasLink, Cond.instanceMethod yX1_hasLink, Cond.selects RX1 yX1_hasLink yX1_hasLink, Cond.initialized RX1, Cond.code yX1_hasLink cX1_hasLink 3 (some .boolean), Cond.fieldLink RX1 18 "CloseClocks$Net" "ways" "[I", Cond.methodLink RX1 28 yX1_hasNode, Cond.instanceMethod yX1_hasNode, Cond.selects RX1 yX1_hasNode yX1_hasNode, Cond.code yX1_hasNode cX1_hasNode 2 (some .boolean), Cond.fieldLink RX1 21 "CloseClocks$Net" "nodes" "I", Cond.static yX3_cell, Cond.code yX3_cell cX3_cell 2 (some .int), Cond.methodLink RX3 110 yX3_cell, Cond.methodLink RX3 154 yX0_guess]
def wsX3_mixLink_r2 : List Cond := [Cond.instanceMethod yX0_guess, Cond.selects RX0 yX0_guess yX0_guess, Cond.initialized RX0, Cond.code yX0_guess cX0_guess 5 (some .int), Cond.fieldLink RX0 24 "CloseClocks$Clocks" "delays" "[I", Cond.fieldLink RX0 9 "CloseClocks$Clocks" "past" "[I", Cond.fieldLink RX0 27 "CloseClocks$Clocks" "errors" "[I", Cond.methodLink RX3 157 yX0_skewOf, Cond.instanceMethod yX0_skewOf, Cond.selects RX0 yX0_skewOf yX0_skewOf, Cond.code yX0_skewOf cX0_skewOf 3 (some .int), Cond.methodLink RX0 134 Lib.Math.abs.name, Cond.static Lib.Math.abs.name, Cond.initialized "java/lang/Math", Cond.code Lib.Math.abs.name Lib.Math.abs.code 1 (some .int), Cond.methodLink RX0 103 yX0_clockOf, Cond.instanceMethod yX0_clockOf, Cond.selects RX0 yX0_clockOf yX0_clockOf, Cond.code yX0_clockOf cX0_clockOf 2 (some .int), Cond.methodLink RX3 214 yX3_mix, Cond.static yX3_mix, Cond.code yX3_mix cX3_mix 3 (some .long), Cond.constantLong RX3 238 (31)]
def wsX3_mixLink : List Cond := .code yX3_mixLink cX3_mixLink 8 (some .long) :: ((wsX3_mixLink_r1 ++ wsX3_mixLink_r2) ++ wsX30 ++ wsX00 ++ wsX10)
def wsX3_mixLinks_r1 : List Cond := [Cond.fieldLink RX3 19 "CloseClocks" "shape" "LCloseClocks$Net;", Cond.methodLink RX3 103 yX1_hasLink, Cond.instanceMethod yX1_hasLink, Cond.selects RX1 yX1_hasLink yX1_hasLink, Cond.initialized RX1, Cond.code yX1_hasLink cX1_hasLink 3 (some .boolean), Cond.fieldLink RX1 18 "CloseClocks$Net" "ways" "[I", Cond.methodLink RX1 28 yX1_hasNode, Cond.instanceMethod yX1_hasNode, Cond.selects RX1 yX1_hasNode yX1_hasNode, Cond.code yX1_hasNode cX1_hasNode 2 (some .boolean), Cond.fieldLink RX1 21 "CloseClocks$Net" "nodes" "I", Cond.static yX3_cell, Cond.initialized RX3, Cond.code yX3_cell cX3_cell 2 (some .int), Cond.methodLink RX3 224 yX3_mixLink, Cond.instanceMethod yX3_mixLink, Cond.selects RX3 yX3_mixLink yX3_mixLink, Cond.code yX3_mixLink cX3_mixLink 8 (some .long), Cond.methodLink RX3 228 yX3_link, Cond.instanceMethod yX3_link, Cond.selects RX3 yX3_link yX3_link, Cond.code yX3_link cX3_link 4 (some .int), Cond.constant RX3 90 (-100000002)]
def wsX3_mixLinks_r2 : List Cond := [Cond.fieldLink RX3 28 "CloseClocks" "now" "LCloseClocks$Clocks;", Cond.constant RX3 55 (-100000003), Cond.methodLink RX3 110 yX3_cell, Cond.methodLink RX3 154 yX0_guess, Cond.instanceMethod yX0_guess, Cond.selects RX0 yX0_guess yX0_guess, Cond.initialized RX0, Cond.code yX0_guess cX0_guess 5 (some .int), Cond.fieldLink RX0 24 "CloseClocks$Clocks" "delays" "[I", Cond.fieldLink RX0 9 "CloseClocks$Clocks" "past" "[I", Cond.fieldLink RX0 27 "CloseClocks$Clocks" "errors" "[I", Cond.methodLink RX3 157 yX0_skewOf, Cond.instanceMethod yX0_skewOf, Cond.selects RX0 yX0_skewOf yX0_skewOf, Cond.code yX0_skewOf cX0_skewOf 3 (some .int), Cond.methodLink RX0 134 Lib.Math.abs.name, Cond.static Lib.Math.abs.name, Cond.initialized "java/lang/Math", Cond.code Lib.Math.abs.name Lib.Math.abs.code 1 (some .int), Cond.methodLink RX0 103 yX0_clockOf, Cond.instanceMethod yX0_clockOf, Cond.selects RX0 yX0_clockOf yX0_clockOf, Cond.code yX0_clockOf cX0_clockOf 2 (some .int), Cond.methodLink RX3 214 yX3_mix]
def wsX3_mixLinks_r3 : List Cond := [Cond.static yX3_mix, Cond.code yX3_mix cX3_mix 3 (some .long), Cond.constantLong RX3 238 (31)]
def wsX3_mixLinks : List Cond := .code yX3_mixLinks cX3_mixLinks 7 (some .long) :: ((wsX3_mixLinks_r1 ++ (wsX3_mixLinks_r2 ++ wsX3_mixLinks_r3)) ++ wsX30 ++ wsX10 ++ wsX00)
def wsX3_mixSkews_r1 : List Cond := [Cond.methodLink RX3 232 yX3_skew, Cond.instanceMethod yX3_skew, Cond.selects RX3 yX3_skew yX3_skew, Cond.initialized RX3, Cond.code yX3_skew cX3_skew 2 (some .int), Cond.constant RX3 55 (-100000003), Cond.fieldLink RX3 19 "CloseClocks" "shape" "LCloseClocks$Net;", Cond.constant RX3 75 (-100000004), Cond.fieldLink RX3 28 "CloseClocks" "now" "LCloseClocks$Clocks;", Cond.fieldLink RX3 42 "CloseClocks" "step" "I", Cond.methodLink RX3 121 yX1_isRead, Cond.instanceMethod yX1_isRead, Cond.selects RX1 yX1_isRead yX1_isRead, Cond.initialized RX1, Cond.code yX1_isRead cX1_isRead 1 (some .boolean), Cond.fieldLink RX1 21 "CloseClocks$Net" "nodes" "I", Cond.methodLink RX3 130 yX0_localSkew, Cond.instanceMethod yX0_localSkew, Cond.selects RX0 yX0_localSkew yX0_localSkew, Cond.initialized RX0, Cond.code yX0_localSkew cX0_localSkew 1 (some .int), Cond.methodLink RX0 137 yX0_skewByHops, Cond.instanceMethod yX0_skewByHops, Cond.selects RX0 yX0_skewByHops yX0_skewByHops]
def wsX3_mixSkews_r2 : List Cond := [Cond.code yX0_skewByHops cX0_skewByHops 5 (some .int), Cond.constant RX0 37 (-100000001), Cond.fieldLink RX0 44 "CloseClocks$Clocks" "shape" "LCloseClocks$Net;", Cond.methodLink RX0 115 Lib.Math.max.name, Cond.static Lib.Math.max.name, Cond.initialized "java/lang/Math", Cond.code Lib.Math.max.name Lib.Math.max.code 2 (some .int), Cond.methodLink RX0 143 yX1_hopsOf, Cond.instanceMethod yX1_hopsOf, Cond.selects RX1 yX1_hopsOf yX1_hopsOf, Cond.code yX1_hopsOf cX1_hopsOf 4 (some .int), Cond.fieldLink RX1 18 "CloseClocks$Net" "ways" "[I", Cond.constant RX1 36 (-100000001), Cond.static yX3_cell, Cond.code yX3_cell cX3_cell 2 (some .int), Cond.methodLink RX0 140 yX0_skewOf, Cond.instanceMethod yX0_skewOf, Cond.selects RX0 yX0_skewOf yX0_skewOf, Cond.code yX0_skewOf cX0_skewOf 3 (some .int), Cond.methodLink RX0 134 Lib.Math.abs.name, Cond.static Lib.Math.abs.name, Cond.code Lib.Math.abs.name Lib.Math.abs.code 1 (some .int), Cond.methodLink RX0 103 yX0_clockOf, Cond.instanceMethod yX0_clockOf]
def wsX3_mixSkews_r3 : List Cond := [Cond.selects RX0 yX0_clockOf yX0_clockOf, Cond.code yX0_clockOf cX0_clockOf 2 (some .int), Cond.fieldLink RX0 9 "CloseClocks$Clocks" "past" "[I", Cond.methodLink RX3 163 yX0_globalSkew, Cond.instanceMethod yX0_globalSkew, Cond.selects RX0 yX0_globalSkew yX0_globalSkew, Cond.code yX0_globalSkew cX0_globalSkew 4 (some .int), Cond.methodLink RX3 166 yX3_levelReaching, Cond.static yX3_levelReaching, Cond.code yX3_levelReaching cX3_levelReaching 2 (some .int), Cond.methodLink RX3 252 yX3_dividedUp, Cond.static yX3_dividedUp, Cond.code yX3_dividedUp cX3_dividedUp 2 (some .int), Cond.methodLink RX3 214 yX3_mix, Cond.static yX3_mix, Cond.code yX3_mix cX3_mix 3 (some .long), Cond.constantLong RX3 238 (31), Cond.methodLink RX3 235 yX3_spread, Cond.instanceMethod yX3_spread, Cond.selects RX3 yX3_spread yX3_spread, Cond.code yX3_spread cX3_spread 2 (some .int), Cond.methodLink RX3 172 yX0_skewByHops, Cond.methodLink RX3 175 yX3_searchWorst, Cond.instanceMethod yX3_searchWorst]
def wsX3_mixSkews_r4 : List Cond := [Cond.selects RX3 yX3_searchWorst yX3_searchWorst, Cond.code yX3_searchWorst cX3_searchWorst 6 (some .long), Cond.fieldLink RX3 35 "CloseClocks" "trial" "LCloseClocks$Clocks;", Cond.fieldLink RX3 46 "CloseClocks" "boost" "I", Cond.methodLink RX3 186 yX0_copyAll, Cond.instanceMethod yX0_copyAll, Cond.selects RX0 yX0_copyAll yX0_copyAll, Cond.code yX0_copyAll cX0_copyAll 2 none, Cond.fieldLink RX0 15 "CloseClocks$Clocks" "rates" "[I", Cond.methodLink RX0 76 arraycopyName, Cond.native arraycopyName, Cond.static arraycopyName, Cond.initialized "java/lang/System", Cond.fieldLink RX0 21 "CloseClocks$Clocks" "fastTicks" "[I", Cond.fieldLink RX0 24 "CloseClocks$Clocks" "delays" "[I", Cond.fieldLink RX0 27 "CloseClocks$Clocks" "errors" "[I", Cond.fieldLink RX0 30 "CloseClocks$Clocks" "ticks" "I", Cond.fieldLink RX0 34 "CloseClocks$Clocks" "greatestLocal" "I", Cond.methodLink RX0 72 yX0_copyMotion, Cond.instanceMethod yX0_copyMotion, Cond.selects RX0 yX0_copyMotion yX0_copyMotion, Cond.code yX0_copyMotion cX0_copyMotion 2 none, Cond.fieldLink RX0 18 "CloseClocks$Clocks" "fast" "[I", Cond.methodLink RX3 240 yX0_copyMotion]
def wsX3_mixSkews_r5 : List Cond := [Cond.methodLink RX3 243 yX0_tellRates, Cond.instanceMethod yX0_tellRates, Cond.selects RX0 yX0_tellRates yX0_tellRates, Cond.code yX0_tellRates cX0_tellRates 3 none, Cond.methodLink RX3 247 yX0_move, Cond.instanceMethod yX0_move, Cond.selects RX0 yX0_move yX0_move, Cond.code yX0_move cX0_move 4 none, Cond.methodLink RX0 93 yX0_compareGuesses, Cond.instanceMethod yX0_compareGuesses, Cond.selects RX0 yX0_compareGuesses yX0_compareGuesses, Cond.code yX0_compareGuesses cX0_compareGuesses 8 none, Cond.fieldLink RX0 38 "CloseClocks$Clocks" "ahead" "I", Cond.fieldLink RX0 41 "CloseClocks$Clocks" "behind" "I", Cond.methodLink RX0 109 yX1_neighbourOf, Cond.instanceMethod yX1_neighbourOf, Cond.selects RX1 yX1_neighbourOf yX1_neighbourOf, Cond.code yX1_neighbourOf cX1_neighbourOf 3 (some .int), Cond.fieldLink RX1 15 "CloseClocks$Net" "neighbours" "[I", Cond.methodLink RX0 112 yX0_guess, Cond.instanceMethod yX0_guess, Cond.selects RX0 yX0_guess yX0_guess, Cond.code yX0_guess cX0_guess 5 (some .int), Cond.methodLink RX0 97 yX0_upLevel]
def wsX3_mixSkews_r6 : List Cond := [Cond.instanceMethod yX0_upLevel, Cond.selects RX0 yX0_upLevel yX0_upLevel, Cond.code yX0_upLevel cX0_upLevel 3 (some .int), Cond.methodLink RX0 100 yX0_downLevel, Cond.instanceMethod yX0_downLevel, Cond.selects RX0 yX0_downLevel yX0_downLevel, Cond.code yX0_downLevel cX0_downLevel 3 (some .int), Cond.methodLink RX3 179 yX3_skewOfWorst, Cond.static yX3_skewOfWorst, Cond.code yX3_skewOfWorst cX3_skewOfWorst 2 (some .int), Cond.methodLink RX3 183 yX3_nodesOfWorst, Cond.static yX3_nodesOfWorst, Cond.code yX3_nodesOfWorst cX3_nodesOfWorst 2 (some .int), Cond.constantLong RX3 250 (63)]
def wsX3_mixSkews : List Cond := .code yX3_mixSkews cX3_mixSkews 7 (some .long) :: ((wsX3_mixSkews_r1 ++ (wsX3_mixSkews_r2 ++ (wsX3_mixSkews_r3 ++ (wsX3_mixSkews_r4 ++ (wsX3_mixSkews_r5 ++ wsX3_mixSkews_r6))))) ++ wsX30 ++ wsX00 ++ wsX10)
def wsX3_digest_r1 : List Cond := [Cond.constantLong RX3 199 (1663), Cond.fieldLink RX3 19 "CloseClocks" "shape" "LCloseClocks$Net;", Cond.fieldLink RX3 10 "CloseClocks" "page" "LCloseClocks$Page;", Cond.methodLink RX3 201 yX3_mixNodes, Cond.instanceMethod yX3_mixNodes, Cond.selects RX3 yX3_mixNodes yX3_mixNodes, Cond.initialized RX3, Cond.code yX3_mixNodes cX3_mixNodes 7 (some .long), Cond.methodLink RX3 221 yX3_node, Cond.instanceMethod yX3_node, Cond.selects RX3 yX3_node yX3_node, Cond.code yX3_node cX3_node 3 (some .int), Cond.constant RX3 90 (-100000002), Cond.fieldLink RX3 28 "CloseClocks" "now" "LCloseClocks$Clocks;", Cond.fieldLink RX3 42 "CloseClocks" "step" "I", Cond.constant RX3 55 (-100000003), Cond.methodLink RX3 86 yX1_hasNode, Cond.instanceMethod yX1_hasNode, Cond.selects RX1 yX1_hasNode yX1_hasNode, Cond.initialized RX1, Cond.code yX1_hasNode cX1_hasNode 2 (some .boolean), Cond.fieldLink RX1 21 "CloseClocks$Net" "nodes" "I", Cond.methodLink RX3 96 yX0_clockOf, Cond.instanceMethod yX0_clockOf]
def wsX3_digest_r2 : List Cond := [Cond.selects RX0 yX0_clockOf yX0_clockOf, Cond.initialized RX0, Cond.code yX0_clockOf cX0_clockOf 2 (some .int), Cond.fieldLink RX0 9 "CloseClocks$Clocks" "past" "[I", Cond.methodLink RX3 139 yX0_aheadOf, Cond.instanceMethod yX0_aheadOf, Cond.selects RX0 yX0_aheadOf yX0_aheadOf, Cond.code yX0_aheadOf cX0_aheadOf 2 (some .int), Cond.fieldLink RX0 38 "CloseClocks$Clocks" "ahead" "I", Cond.methodLink RX0 93 yX0_compareGuesses, Cond.instanceMethod yX0_compareGuesses, Cond.selects RX0 yX0_compareGuesses yX0_compareGuesses, Cond.code yX0_compareGuesses cX0_compareGuesses 8 none, Cond.constant RX0 37 (-100000001), Cond.fieldLink RX0 44 "CloseClocks$Clocks" "shape" "LCloseClocks$Net;", Cond.methodLink RX0 115 Lib.Math.max.name, Cond.static Lib.Math.max.name, Cond.initialized "java/lang/Math", Cond.code Lib.Math.max.name Lib.Math.max.code 2 (some .int), Cond.fieldLink RX0 41 "CloseClocks$Clocks" "behind" "I", Cond.methodLink RX0 103 yX0_clockOf, Cond.methodLink RX0 109 yX1_neighbourOf, Cond.instanceMethod yX1_neighbourOf, Cond.selects RX1 yX1_neighbourOf yX1_neighbourOf]
def wsX3_digest_r3 : List Cond := [Cond.code yX1_neighbourOf cX1_neighbourOf 3 (some .int), Cond.fieldLink RX1 15 "CloseClocks$Net" "neighbours" "[I", Cond.static yX3_cell, Cond.code yX3_cell cX3_cell 2 (some .int), Cond.methodLink RX0 112 yX0_guess, Cond.instanceMethod yX0_guess, Cond.selects RX0 yX0_guess yX0_guess, Cond.code yX0_guess cX0_guess 5 (some .int), Cond.fieldLink RX0 24 "CloseClocks$Clocks" "delays" "[I", Cond.fieldLink RX0 27 "CloseClocks$Clocks" "errors" "[I", Cond.methodLink RX3 142 yX0_behindOf, Cond.instanceMethod yX0_behindOf, Cond.selects RX0 yX0_behindOf yX0_behindOf, Cond.code yX0_behindOf cX0_behindOf 2 (some .int), Cond.methodLink RX3 145 yX0_leastUp, Cond.instanceMethod yX0_leastUp, Cond.selects RX0 yX0_leastUp yX0_leastUp, Cond.code yX0_leastUp cX0_leastUp 3 (some .int), Cond.methodLink RX0 97 yX0_upLevel, Cond.instanceMethod yX0_upLevel, Cond.selects RX0 yX0_upLevel yX0_upLevel, Cond.code yX0_upLevel cX0_upLevel 3 (some .int), Cond.static yX3_levelReaching, Cond.code yX3_levelReaching cX3_levelReaching 2 (some .int)]
def wsX3_digest_r4 : List Cond := [Cond.methodLink RX3 252 yX3_dividedUp, Cond.static yX3_dividedUp, Cond.code yX3_dividedUp cX3_dividedUp 2 (some .int), Cond.methodLink RX3 148 yX0_leastDown, Cond.instanceMethod yX0_leastDown, Cond.selects RX0 yX0_leastDown yX0_leastDown, Cond.code yX0_leastDown cX0_leastDown 3 (some .int), Cond.methodLink RX0 100 yX0_downLevel, Cond.instanceMethod yX0_downLevel, Cond.selects RX0 yX0_downLevel yX0_downLevel, Cond.code yX0_downLevel cX0_downLevel 3 (some .int), Cond.methodLink RX3 214 yX3_mix, Cond.static yX3_mix, Cond.code yX3_mix cX3_mix 3 (some .long), Cond.constantLong RX3 238 (31), Cond.methodLink RX3 205 yX3_mixLinks, Cond.instanceMethod yX3_mixLinks, Cond.selects RX3 yX3_mixLinks yX3_mixLinks, Cond.code yX3_mixLinks cX3_mixLinks 7 (some .long), Cond.methodLink RX3 103 yX1_hasLink, Cond.instanceMethod yX1_hasLink, Cond.selects RX1 yX1_hasLink yX1_hasLink, Cond.code yX1_hasLink cX1_hasLink 3 (some .boolean), Cond.fieldLink RX1 18 "CloseClocks$Net" "ways" "[I"]
def wsX3_digest_r5 : List Cond := [Cond.methodLink RX1 28 yX1_hasNode, Cond.methodLink RX3 224 yX3_mixLink, Cond.instanceMethod yX3_mixLink, Cond.selects RX3 yX3_mixLink yX3_mixLink, Cond.code yX3_mixLink cX3_mixLink 8 (some .long), Cond.methodLink RX3 228 yX3_link, Cond.instanceMethod yX3_link, Cond.selects RX3 yX3_link yX3_link, Cond.code yX3_link cX3_link 4 (some .int), Cond.methodLink RX3 110 yX3_cell, Cond.methodLink RX3 154 yX0_guess, Cond.methodLink RX3 157 yX0_skewOf, Cond.instanceMethod yX0_skewOf, Cond.selects RX0 yX0_skewOf yX0_skewOf, Cond.code yX0_skewOf cX0_skewOf 3 (some .int), Cond.methodLink RX0 134 Lib.Math.abs.name, Cond.static Lib.Math.abs.name, Cond.code Lib.Math.abs.name Lib.Math.abs.code 1 (some .int), Cond.methodLink RX3 121 yX1_isRead, Cond.instanceMethod yX1_isRead, Cond.selects RX1 yX1_isRead yX1_isRead, Cond.code yX1_isRead cX1_isRead 1 (some .boolean), Cond.methodLink RX3 208 yX3_mixSkews, Cond.instanceMethod yX3_mixSkews]
def wsX3_digest_r6 : List Cond := [Cond.selects RX3 yX3_mixSkews yX3_mixSkews, Cond.code yX3_mixSkews cX3_mixSkews 7 (some .long), Cond.methodLink RX3 232 yX3_skew, Cond.instanceMethod yX3_skew, Cond.selects RX3 yX3_skew yX3_skew, Cond.code yX3_skew cX3_skew 2 (some .int), Cond.constant RX3 75 (-100000004), Cond.methodLink RX3 130 yX0_localSkew, Cond.instanceMethod yX0_localSkew, Cond.selects RX0 yX0_localSkew yX0_localSkew, Cond.code yX0_localSkew cX0_localSkew 1 (some .int), Cond.methodLink RX0 137 yX0_skewByHops, Cond.instanceMethod yX0_skewByHops, Cond.selects RX0 yX0_skewByHops yX0_skewByHops, Cond.code yX0_skewByHops cX0_skewByHops 5 (some .int), Cond.methodLink RX0 143 yX1_hopsOf, Cond.instanceMethod yX1_hopsOf, Cond.selects RX1 yX1_hopsOf yX1_hopsOf, Cond.code yX1_hopsOf cX1_hopsOf 4 (some .int), Cond.constant RX1 36 (-100000001), Cond.methodLink RX0 140 yX0_skewOf, Cond.methodLink RX3 163 yX0_globalSkew, Cond.instanceMethod yX0_globalSkew, Cond.selects RX0 yX0_globalSkew yX0_globalSkew]
def wsX3_digest_r7 : List Cond := [Cond.code yX0_globalSkew cX0_globalSkew 4 (some .int), Cond.methodLink RX3 166 yX3_levelReaching, Cond.methodLink RX3 235 yX3_spread, Cond.instanceMethod yX3_spread, Cond.selects RX3 yX3_spread yX3_spread, Cond.code yX3_spread cX3_spread 2 (some .int), Cond.methodLink RX3 172 yX0_skewByHops, Cond.methodLink RX3 175 yX3_searchWorst, Cond.instanceMethod yX3_searchWorst, Cond.selects RX3 yX3_searchWorst yX3_searchWorst, Cond.code yX3_searchWorst cX3_searchWorst 6 (some .long), Cond.fieldLink RX3 35 "CloseClocks" "trial" "LCloseClocks$Clocks;", Cond.fieldLink RX3 46 "CloseClocks" "boost" "I", Cond.methodLink RX3 186 yX0_copyAll, Cond.instanceMethod yX0_copyAll, Cond.selects RX0 yX0_copyAll yX0_copyAll, Cond.code yX0_copyAll cX0_copyAll 2 none, Cond.fieldLink RX0 15 "CloseClocks$Clocks" "rates" "[I", Cond.methodLink RX0 76 arraycopyName, Cond.native arraycopyName, Cond.static arraycopyName, Cond.initialized "java/lang/System", Cond.fieldLink RX0 21 "CloseClocks$Clocks" "fastTicks" "[I", Cond.fieldLink RX0 30 "CloseClocks$Clocks" "ticks" "I"]
def wsX3_digest_r8 : List Cond := [Cond.fieldLink RX0 34 "CloseClocks$Clocks" "greatestLocal" "I", Cond.methodLink RX0 72 yX0_copyMotion, Cond.instanceMethod yX0_copyMotion, Cond.selects RX0 yX0_copyMotion yX0_copyMotion, Cond.code yX0_copyMotion cX0_copyMotion 2 none, Cond.fieldLink RX0 18 "CloseClocks$Clocks" "fast" "[I", Cond.methodLink RX3 240 yX0_copyMotion, Cond.methodLink RX3 243 yX0_tellRates, Cond.instanceMethod yX0_tellRates, Cond.selects RX0 yX0_tellRates yX0_tellRates, Cond.code yX0_tellRates cX0_tellRates 3 none, Cond.methodLink RX3 247 yX0_move, Cond.instanceMethod yX0_move, Cond.selects RX0 yX0_move yX0_move, Cond.code yX0_move cX0_move 4 none, Cond.methodLink RX3 179 yX3_skewOfWorst, Cond.static yX3_skewOfWorst, Cond.code yX3_skewOfWorst cX3_skewOfWorst 2 (some .int), Cond.methodLink RX3 183 yX3_nodesOfWorst, Cond.static yX3_nodesOfWorst, Cond.code yX3_nodesOfWorst cX3_nodesOfWorst 2 (some .int), Cond.constantLong RX3 250 (63), Cond.methodLink RX3 211 yX2_letterAt, Cond.instanceMethod yX2_letterAt]
def wsX3_digest_r9 : List Cond := [Cond.selects RX2 yX2_letterAt yX2_letterAt, Cond.initialized RX2, Cond.code yX2_letterAt cX2_letterAt 2 (some .int), Cond.fieldLink RX2 15 "CloseClocks$Page" "length" "I", Cond.fieldLink RX2 9 "CloseClocks$Page" "letters" "[I", Cond.constant RX2 19 (-100000001), Cond.methodLink RX3 218 yX3_count, Cond.instanceMethod yX3_count, Cond.selects RX3 yX3_count yX3_count, Cond.code yX3_count cX3_count 2 (some .int), Cond.fieldLink RX3 49 "CloseClocks" "netsRead" "I", Cond.fieldLink RX3 52 "CloseClocks" "ticksEver" "I", Cond.methodLink RX3 196 yX0_howManyFast, Cond.instanceMethod yX0_howManyFast, Cond.selects RX0 yX0_howManyFast yX0_howManyFast, Cond.code yX0_howManyFast cX0_howManyFast 3 (some .int)]
def wsX3_digest : List Cond := .code yX3_digest cX3_digest 4 (some .long) :: ((wsX3_digest_r1 ++ (wsX3_digest_r2 ++ (wsX3_digest_r3 ++ (wsX3_digest_r4 ++ (wsX3_digest_r5 ++ (wsX3_digest_r6 ++ (wsX3_digest_r7 ++ (wsX3_digest_r8 ++ wsX3_digest_r9)))))))) ++ wsX30 ++ wsX20 ++ wsX10 ++ wsX00)
def wsX4_init_r1 : List Cond := [Cond.methodLink RX4 1 objectInit, Cond.instanceMethod objectInit, Cond.code objectInit ⟨#[0xb1]⟩ 1 none, Cond.arrayClass .int, Cond.fieldLink RX4 7 "CloseClocksModel" "page" "[I", Cond.fieldLink RX4 13 "CloseClocksModel" "delayOf" "[I", Cond.fieldLink RX4 16 "CloseClocksModel" "errorOf" "[I", Cond.fieldLink RX4 19 "CloseClocksModel" "rateOf" "[I", Cond.fieldLink RX4 22 "CloseClocksModel" "clockAt" "[I", Cond.arrayClass .boolean, Cond.fieldLink RX4 25 "CloseClocksModel" "isFast" "[Z", Cond.fieldLink RX4 29 "CloseClocksModel" "fastTicks" "[I", Cond.fieldLink RX4 32 "CloseClocksModel" "step" "I", Cond.fieldLink RX4 36 "CloseClocksModel" "boost" "I", Cond.fieldLink RX4 39 "CloseClocksModel" "newDelays" "[I", Cond.fieldLink RX4 42 "CloseClocksModel" "turnOf" "[I", Cond.fieldLink RX4 45 "CloseClocksModel" "triedClocks" "[I", Cond.fieldLink RX4 48 "CloseClocksModel" "triedRates" "[I", Cond.fieldLink RX4 51 "CloseClocksModel" "triedFast" "[Z", Cond.fieldLink RX4 54 "CloseClocksModel" "triedTicks" "[I", Cond.fieldLink RX4 57 "CloseClocksModel" "keptClocks" "[I", Cond.fieldLink RX4 60 "CloseClocksModel" "keptRates" "[I", Cond.fieldLink RX4 63 "CloseClocksModel" "keptErrors" "[I", Cond.fieldLink RX4 66 "CloseClocksModel" "keptDelays" "[I"]
def wsX4_init_r2 : List Cond := [Cond.fieldLink RX4 69 "CloseClocksModel" "keptFast" "[Z", Cond.fieldLink RX4 72 "CloseClocksModel" "keptFastTicks" "[I"]
def wsX4_init : List Cond := .code yX4_init cX4_init 1 none :: ((wsX4_init_r1 ++ wsX4_init_r2) ++ wsX40)
def wsX4_within : List Cond := .code yX4_within cX4_within 3 (some .boolean) :: ([])
def wsX4_letter : List Cond := .code yX4_letter cX4_letter 2 (some .int) :: ([.constant RX4 79 (-100000003), .fieldLink RX4 80 "CloseClocksModel" "pageLength" "I", .constant RX4 83 (-100000005), .fieldLink RX4 7 "CloseClocksModel" "page" "[I", .methodLink RX4 75 yX4_within, .static yX4_within, .initialized RX4, .code yX4_within cX4_within 3 (some .boolean)] ++ wsX40)
def wsX4_blank : List Cond := .code yX4_blank cX4_blank 2 (some .int) :: ([.fieldLink RX4 80 "CloseClocksModel" "pageLength" "I"] ++ wsX40)
def wsX4_takesDigit : List Cond := .code yX4_takesDigit cX4_takesDigit 3 (some .boolean) :: ([.fieldLink RX4 84 "CloseClocksModel" "due" "I", .fieldLink RX4 87 "CloseClocksModel" "newOne" "I", .fieldLink RX4 90 "CloseClocksModel" "newNodes" "I", .fieldLink RX4 93 "CloseClocksModel" "newOther" "I", .fieldLink RX4 39 "CloseClocksModel" "newDelays" "[I", .constant RX4 96 (-100000001), .fieldLink RX4 97 "CloseClocksModel" "newLinks" "I", .methodLink RX4 75 yX4_within, .static yX4_within, .initialized RX4, .code yX4_within cX4_within 3 (some .boolean)] ++ wsX40)
def wsX4_takes : List Cond := .code yX4_takes cX4_takes 2 (some .boolean) :: ([.fieldLink RX4 90 "CloseClocksModel" "newNodes" "I", .fieldLink RX4 84 "CloseClocksModel" "due" "I", .methodLink RX4 75 yX4_within, .static yX4_within, .initialized RX4, .code yX4_within cX4_within 3 (some .boolean), .methodLink RX4 100 yX4_takesDigit, .instanceMethod yX4_takesDigit, .selects RX4 yX4_takesDigit yX4_takesDigit, .code yX4_takesDigit cX4_takesDigit 3 (some .boolean), .fieldLink RX4 87 "CloseClocksModel" "newOne" "I", .fieldLink RX4 93 "CloseClocksModel" "newOther" "I", .fieldLink RX4 39 "CloseClocksModel" "newDelays" "[I", .constant RX4 96 (-100000001), .fieldLink RX4 97 "CloseClocksModel" "newLinks" "I"] ++ wsX40)
def wsX4_goAlong : List Cond := .code yX4_goAlong cX4_goAlong 2 (some .int) :: ([.fieldLink RX4 90 "CloseClocksModel" "newNodes" "I", .fieldLink RX4 97 "CloseClocksModel" "newLinks" "I", .fieldLink RX4 84 "CloseClocksModel" "due" "I", .fieldLink RX4 39 "CloseClocksModel" "newDelays" "[I", .constant RX4 96 (-100000001), .fieldLink RX4 80 "CloseClocksModel" "pageLength" "I", .fieldLink RX4 7 "CloseClocksModel" "page" "[I", .methodLink RX4 104 yX4_takes, .instanceMethod yX4_takes, .selects RX4 yX4_takes yX4_takes, .initialized RX4, .code yX4_takes cX4_takes 2 (some .boolean), .methodLink RX4 75 yX4_within, .static yX4_within, .code yX4_within cX4_within 3 (some .boolean), .methodLink RX4 100 yX4_takesDigit, .instanceMethod yX4_takesDigit, .selects RX4 yX4_takesDigit yX4_takesDigit, .code yX4_takesDigit cX4_takesDigit 3 (some .boolean), .fieldLink RX4 87 "CloseClocksModel" "newOne" "I", .fieldLink RX4 93 "CloseClocksModel" "newOther" "I"] ++ wsX40)
def wsX4_fault_r1 : List Cond := [Cond.methodLink RX4 107 yX4_goAlong, Cond.instanceMethod yX4_goAlong, Cond.selects RX4 yX4_goAlong yX4_goAlong, Cond.initialized RX4, Cond.code yX4_goAlong cX4_goAlong 2 (some .int), Cond.fieldLink RX4 90 "CloseClocksModel" "newNodes" "I", Cond.fieldLink RX4 97 "CloseClocksModel" "newLinks" "I", Cond.fieldLink RX4 84 "CloseClocksModel" "due" "I", Cond.fieldLink RX4 39 "CloseClocksModel" "newDelays" "[I", Cond.constant RX4 96 (-100000001), Cond.fieldLink RX4 80 "CloseClocksModel" "pageLength" "I", Cond.fieldLink RX4 7 "CloseClocksModel" "page" "[I", Cond.methodLink RX4 104 yX4_takes, Cond.instanceMethod yX4_takes, Cond.selects RX4 yX4_takes yX4_takes, Cond.code yX4_takes cX4_takes 2 (some .boolean), Cond.methodLink RX4 75 yX4_within, Cond.static yX4_within, Cond.code yX4_within cX4_within 3 (some .boolean), Cond.methodLink RX4 100 yX4_takesDigit, Cond.instanceMethod yX4_takesDigit, Cond.selects RX4 yX4_takesDigit yX4_takesDigit, Cond.code yX4_takesDigit cX4_takesDigit 3 (some .boolean), Cond.fieldLink RX4 87 "CloseClocksModel" "newOne" "I"]
def wsX4_fault_r2 : List Cond := [Cond.fieldLink RX4 93 "CloseClocksModel" "newOther" "I"]
def wsX4_fault : List Cond := .code yX4_fault cX4_fault 1 (some .int) :: ((wsX4_fault_r1 ++ wsX4_fault_r2) ++ wsX40)
def wsX4_setClock : List Cond := .code yX4_setClock cX4_setClock 4 none :: ([.fieldLink RX4 22 "CloseClocksModel" "clockAt" "[I"] ++ wsX40)
def wsX4_net_r1 : List Cond := [Cond.fieldLink RX4 80 "CloseClocksModel" "pageLength" "I", Cond.fieldLink RX4 97 "CloseClocksModel" "newLinks" "I", Cond.fieldLink RX4 84 "CloseClocksModel" "due" "I", Cond.constant RX4 111 (-100000004), Cond.fieldLink RX4 90 "CloseClocksModel" "newNodes" "I", Cond.fieldLink RX4 112 "CloseClocksModel" "nodes" "I", Cond.fieldLink RX4 115 "CloseClocksModel" "links" "I", Cond.fieldLink RX4 13 "CloseClocksModel" "delayOf" "[I", Cond.fieldLink RX4 39 "CloseClocksModel" "newDelays" "[I", Cond.fieldLink RX4 16 "CloseClocksModel" "errorOf" "[I", Cond.fieldLink RX4 19 "CloseClocksModel" "rateOf" "[I", Cond.fieldLink RX4 25 "CloseClocksModel" "isFast" "[Z", Cond.fieldLink RX4 29 "CloseClocksModel" "fastTicks" "[I", Cond.fieldLink RX4 122 "CloseClocksModel" "ticks" "I", Cond.fieldLink RX4 125 "CloseClocksModel" "mostLocal" "I", Cond.fieldLink RX4 128 "CloseClocksModel" "isKept" "Z", Cond.fieldLink RX4 132 "CloseClocksModel" "netsRead" "I", Cond.methodLink RX4 107 yX4_goAlong, Cond.instanceMethod yX4_goAlong, Cond.selects RX4 yX4_goAlong yX4_goAlong, Cond.initialized RX4, Cond.code yX4_goAlong cX4_goAlong 2 (some .int), Cond.constant RX4 96 (-100000001), Cond.fieldLink RX4 7 "CloseClocksModel" "page" "[I"]
def wsX4_net_r2 : List Cond := [Cond.methodLink RX4 104 yX4_takes, Cond.instanceMethod yX4_takes, Cond.selects RX4 yX4_takes yX4_takes, Cond.code yX4_takes cX4_takes 2 (some .boolean), Cond.methodLink RX4 75 yX4_within, Cond.static yX4_within, Cond.code yX4_within cX4_within 3 (some .boolean), Cond.methodLink RX4 100 yX4_takesDigit, Cond.instanceMethod yX4_takesDigit, Cond.selects RX4 yX4_takesDigit yX4_takesDigit, Cond.code yX4_takesDigit cX4_takesDigit 3 (some .boolean), Cond.fieldLink RX4 87 "CloseClocksModel" "newOne" "I", Cond.fieldLink RX4 93 "CloseClocksModel" "newOther" "I", Cond.methodLink RX4 118 yX4_setClock, Cond.instanceMethod yX4_setClock, Cond.selects RX4 yX4_setClock yX4_setClock, Cond.code yX4_setClock cX4_setClock 4 none, Cond.fieldLink RX4 22 "CloseClocksModel" "clockAt" "[I"]
def wsX4_net : List Cond := .code yX4_net cX4_net 2 (some .int) :: ((wsX4_net_r1 ++ wsX4_net_r2) ++ wsX40)
def wsX4_isNode : List Cond := .code yX4_isNode cX4_isNode 2 (some .boolean) :: ([.fieldLink RX4 112 "CloseClocksModel" "nodes" "I", .methodLink RX4 75 yX4_within, .static yX4_within, .initialized RX4, .code yX4_within cX4_within 3 (some .boolean)] ++ wsX40)
def wsX4_areBeside : List Cond := .code yX4_areBeside cX4_areBeside 3 (some .boolean) :: ([.fieldLink RX4 13 "CloseClocksModel" "delayOf" "[I", .constant RX4 96 (-100000001), .methodLink RX4 135 yX4_isNode, .instanceMethod yX4_isNode, .selects RX4 yX4_isNode yX4_isNode, .initialized RX4, .code yX4_isNode cX4_isNode 2 (some .boolean), .fieldLink RX4 112 "CloseClocksModel" "nodes" "I", .methodLink RX4 75 yX4_within, .static yX4_within, .code yX4_within cX4_within 3 (some .boolean)] ++ wsX40)
def wsX4_set : List Cond := .code yX4_set cX4_set 4 (some .int) :: ([.constant RX4 79 (-100000003), .fieldLink RX4 32 "CloseClocksModel" "step" "I", .fieldLink RX4 36 "CloseClocksModel" "boost" "I", .methodLink RX4 75 yX4_within, .static yX4_within, .initialized RX4, .code yX4_within cX4_within 3 (some .boolean)] ++ wsX40)
def wsX4_rate : List Cond := .code yX4_rate cX4_rate 4 (some .int) :: ([.constant RX4 138 (-100000002), .constant RX4 79 (-100000003), .fieldLink RX4 19 "CloseClocksModel" "rateOf" "[I", .methodLink RX4 135 yX4_isNode, .instanceMethod yX4_isNode, .selects RX4 yX4_isNode yX4_isNode, .initialized RX4, .code yX4_isNode cX4_isNode 2 (some .boolean), .fieldLink RX4 112 "CloseClocksModel" "nodes" "I", .methodLink RX4 75 yX4_within, .static yX4_within, .code yX4_within cX4_within 3 (some .boolean)] ++ wsX40)
def wsX4_put : List Cond := .code yX4_put cX4_put 4 (some .int) :: ([.constant RX4 138 (-100000002), .constant RX4 139 (1000000), .constant RX4 79 (-100000003), .fieldLink RX4 22 "CloseClocksModel" "clockAt" "[I", .methodLink RX4 135 yX4_isNode, .instanceMethod yX4_isNode, .selects RX4 yX4_isNode yX4_isNode, .initialized RX4, .code yX4_isNode cX4_isNode 2 (some .boolean), .fieldLink RX4 112 "CloseClocksModel" "nodes" "I", .methodLink RX4 75 yX4_within, .static yX4_within, .code yX4_within cX4_within 3 (some .boolean), .methodLink RX4 118 yX4_setClock, .instanceMethod yX4_setClock, .selects RX4 yX4_setClock yX4_setClock, .code yX4_setClock cX4_setClock 4 none] ++ wsX40)
def wsX4_wrong : List Cond := .code yX4_wrong cX4_wrong 5 (some .int) :: ([.constant RX4 138 (-100000002), .constant RX4 79 (-100000003), .fieldLink RX4 16 "CloseClocksModel" "errorOf" "[I", .methodLink RX4 140 yX4_areBeside, .instanceMethod yX4_areBeside, .selects RX4 yX4_areBeside yX4_areBeside, .initialized RX4, .code yX4_areBeside cX4_areBeside 3 (some .boolean), .fieldLink RX4 13 "CloseClocksModel" "delayOf" "[I", .constant RX4 96 (-100000001), .methodLink RX4 135 yX4_isNode, .instanceMethod yX4_isNode, .selects RX4 yX4_isNode yX4_isNode, .code yX4_isNode cX4_isNode 2 (some .boolean), .fieldLink RX4 112 "CloseClocksModel" "nodes" "I", .methodLink RX4 75 yX4_within, .static yX4_within, .code yX4_within cX4_within 3 (some .boolean)] ++ wsX40)
def wsX4_delay : List Cond := .code yX4_delay cX4_delay 5 (some .int) :: ([.constant RX4 138 (-100000002), .constant RX4 79 (-100000003), .fieldLink RX4 13 "CloseClocksModel" "delayOf" "[I", .methodLink RX4 140 yX4_areBeside, .instanceMethod yX4_areBeside, .selects RX4 yX4_areBeside yX4_areBeside, .initialized RX4, .code yX4_areBeside cX4_areBeside 3 (some .boolean), .constant RX4 96 (-100000001), .methodLink RX4 135 yX4_isNode, .instanceMethod yX4_isNode, .selects RX4 yX4_isNode yX4_isNode, .code yX4_isNode cX4_isNode 2 (some .boolean), .fieldLink RX4 112 "CloseClocksModel" "nodes" "I", .methodLink RX4 75 yX4_within, .static yX4_within, .code yX4_within cX4_within 3 (some .boolean)] ++ wsX40)
def wsX4_guess : List Cond := .code yX4_guess cX4_guess 4 (some .int) :: ([.fieldLink RX4 13 "CloseClocksModel" "delayOf" "[I", .fieldLink RX4 22 "CloseClocksModel" "clockAt" "[I", .fieldLink RX4 16 "CloseClocksModel" "errorOf" "[I"] ++ wsX40)
def wsX4_off : List Cond := .code yX4_off cX4_off 6 (some .int) :: ([.constant RX4 96 (-100000001), .fieldLink RX4 112 "CloseClocksModel" "nodes" "I", .fieldLink RX4 22 "CloseClocksModel" "clockAt" "[I", .methodLink RX4 140 yX4_areBeside, .instanceMethod yX4_areBeside, .selects RX4 yX4_areBeside yX4_areBeside, .initialized RX4, .code yX4_areBeside cX4_areBeside 3 (some .boolean), .fieldLink RX4 13 "CloseClocksModel" "delayOf" "[I", .methodLink RX4 135 yX4_isNode, .instanceMethod yX4_isNode, .selects RX4 yX4_isNode yX4_isNode, .code yX4_isNode cX4_isNode 2 (some .boolean), .methodLink RX4 75 yX4_within, .static yX4_within, .code yX4_within cX4_within 3 (some .boolean), .methodLink RX4 144 yX4_guess, .instanceMethod yX4_guess, .selects RX4 yX4_guess yX4_guess, .code yX4_guess cX4_guess 4 (some .int), .fieldLink RX4 16 "CloseClocksModel" "errorOf" "[I"] ++ wsX40)
def wsX4_firstOf : List Cond := .code yX4_firstOf cX4_firstOf 4 (some .int) :: ([.fieldLink RX4 32 "CloseClocksModel" "step" "I"] ++ wsX40)
def wsX4_trigger : List Cond := .code yX4_trigger cX4_trigger 5 (some .int) :: ([.constant RX4 96 (-100000001), .fieldLink RX4 32 "CloseClocksModel" "step" "I", .methodLink RX4 148 yX4_firstOf, .instanceMethod yX4_firstOf, .selects RX4 yX4_firstOf yX4_firstOf, .initialized RX4, .code yX4_firstOf cX4_firstOf 4 (some .int)] ++ wsX40)
def wsX4_upOf_r1 : List Cond := [Cond.constant RX4 96 (-100000001), Cond.methodLink RX4 151 yX4_off, Cond.instanceMethod yX4_off, Cond.selects RX4 yX4_off yX4_off, Cond.initialized RX4, Cond.code yX4_off cX4_off 6 (some .int), Cond.fieldLink RX4 112 "CloseClocksModel" "nodes" "I", Cond.fieldLink RX4 22 "CloseClocksModel" "clockAt" "[I", Cond.methodLink RX4 140 yX4_areBeside, Cond.instanceMethod yX4_areBeside, Cond.selects RX4 yX4_areBeside yX4_areBeside, Cond.code yX4_areBeside cX4_areBeside 3 (some .boolean), Cond.fieldLink RX4 13 "CloseClocksModel" "delayOf" "[I", Cond.methodLink RX4 135 yX4_isNode, Cond.instanceMethod yX4_isNode, Cond.selects RX4 yX4_isNode yX4_isNode, Cond.code yX4_isNode cX4_isNode 2 (some .boolean), Cond.methodLink RX4 75 yX4_within, Cond.static yX4_within, Cond.code yX4_within cX4_within 3 (some .boolean), Cond.methodLink RX4 144 yX4_guess, Cond.instanceMethod yX4_guess, Cond.selects RX4 yX4_guess yX4_guess, Cond.code yX4_guess cX4_guess 4 (some .int)]
def wsX4_upOf_r2 : List Cond := [Cond.fieldLink RX4 16 "CloseClocksModel" "errorOf" "[I", Cond.methodLink RX4 155 yX4_trigger, Cond.instanceMethod yX4_trigger, Cond.selects RX4 yX4_trigger yX4_trigger, Cond.code yX4_trigger cX4_trigger 5 (some .int), Cond.fieldLink RX4 32 "CloseClocksModel" "step" "I", Cond.methodLink RX4 148 yX4_firstOf, Cond.instanceMethod yX4_firstOf, Cond.selects RX4 yX4_firstOf yX4_firstOf, Cond.code yX4_firstOf cX4_firstOf 4 (some .int)]
def wsX4_upOf : List Cond := .code yX4_upOf cX4_upOf 3 (some .int) :: ((wsX4_upOf_r1 ++ wsX4_upOf_r2) ++ wsX40)
def wsX4_downOf_r1 : List Cond := [Cond.constant RX4 96 (-100000001), Cond.methodLink RX4 151 yX4_off, Cond.instanceMethod yX4_off, Cond.selects RX4 yX4_off yX4_off, Cond.initialized RX4, Cond.code yX4_off cX4_off 6 (some .int), Cond.fieldLink RX4 112 "CloseClocksModel" "nodes" "I", Cond.fieldLink RX4 22 "CloseClocksModel" "clockAt" "[I", Cond.methodLink RX4 140 yX4_areBeside, Cond.instanceMethod yX4_areBeside, Cond.selects RX4 yX4_areBeside yX4_areBeside, Cond.code yX4_areBeside cX4_areBeside 3 (some .boolean), Cond.fieldLink RX4 13 "CloseClocksModel" "delayOf" "[I", Cond.methodLink RX4 135 yX4_isNode, Cond.instanceMethod yX4_isNode, Cond.selects RX4 yX4_isNode yX4_isNode, Cond.code yX4_isNode cX4_isNode 2 (some .boolean), Cond.methodLink RX4 75 yX4_within, Cond.static yX4_within, Cond.code yX4_within cX4_within 3 (some .boolean), Cond.methodLink RX4 144 yX4_guess, Cond.instanceMethod yX4_guess, Cond.selects RX4 yX4_guess yX4_guess, Cond.code yX4_guess cX4_guess 4 (some .int)]
def wsX4_downOf_r2 : List Cond := [Cond.fieldLink RX4 16 "CloseClocksModel" "errorOf" "[I", Cond.methodLink RX4 155 yX4_trigger, Cond.instanceMethod yX4_trigger, Cond.selects RX4 yX4_trigger yX4_trigger, Cond.code yX4_trigger cX4_trigger 5 (some .int), Cond.fieldLink RX4 32 "CloseClocksModel" "step" "I", Cond.methodLink RX4 148 yX4_firstOf, Cond.instanceMethod yX4_firstOf, Cond.selects RX4 yX4_firstOf yX4_firstOf, Cond.code yX4_firstOf cX4_firstOf 4 (some .int)]
def wsX4_downOf : List Cond := .code yX4_downOf cX4_downOf 3 (some .int) :: ((wsX4_downOf_r1 ++ wsX4_downOf_r2) ++ wsX40)
def wsX4_tick_r1 : List Cond := [Cond.fieldLink RX4 112 "CloseClocksModel" "nodes" "I", Cond.fieldLink RX4 42 "CloseClocksModel" "turnOf" "[I", Cond.constant RX4 96 (-100000001), Cond.fieldLink RX4 25 "CloseClocksModel" "isFast" "[Z", Cond.fieldLink RX4 29 "CloseClocksModel" "fastTicks" "[I", Cond.fieldLink RX4 22 "CloseClocksModel" "clockAt" "[I", Cond.fieldLink RX4 19 "CloseClocksModel" "rateOf" "[I", Cond.fieldLink RX4 36 "CloseClocksModel" "boost" "I", Cond.methodLink RX4 159 yX4_upOf, Cond.instanceMethod yX4_upOf, Cond.selects RX4 yX4_upOf yX4_upOf, Cond.initialized RX4, Cond.code yX4_upOf cX4_upOf 3 (some .int), Cond.methodLink RX4 151 yX4_off, Cond.instanceMethod yX4_off, Cond.selects RX4 yX4_off yX4_off, Cond.code yX4_off cX4_off 6 (some .int), Cond.methodLink RX4 140 yX4_areBeside, Cond.instanceMethod yX4_areBeside, Cond.selects RX4 yX4_areBeside yX4_areBeside, Cond.code yX4_areBeside cX4_areBeside 3 (some .boolean), Cond.fieldLink RX4 13 "CloseClocksModel" "delayOf" "[I", Cond.methodLink RX4 135 yX4_isNode, Cond.instanceMethod yX4_isNode]
def wsX4_tick_r2 : List Cond := [Cond.selects RX4 yX4_isNode yX4_isNode, Cond.code yX4_isNode cX4_isNode 2 (some .boolean), Cond.methodLink RX4 75 yX4_within, Cond.static yX4_within, Cond.code yX4_within cX4_within 3 (some .boolean), Cond.methodLink RX4 144 yX4_guess, Cond.instanceMethod yX4_guess, Cond.selects RX4 yX4_guess yX4_guess, Cond.code yX4_guess cX4_guess 4 (some .int), Cond.fieldLink RX4 16 "CloseClocksModel" "errorOf" "[I", Cond.methodLink RX4 155 yX4_trigger, Cond.instanceMethod yX4_trigger, Cond.selects RX4 yX4_trigger yX4_trigger, Cond.code yX4_trigger cX4_trigger 5 (some .int), Cond.fieldLink RX4 32 "CloseClocksModel" "step" "I", Cond.methodLink RX4 148 yX4_firstOf, Cond.instanceMethod yX4_firstOf, Cond.selects RX4 yX4_firstOf yX4_firstOf, Cond.code yX4_firstOf cX4_firstOf 4 (some .int), Cond.methodLink RX4 163 yX4_downOf, Cond.instanceMethod yX4_downOf, Cond.selects RX4 yX4_downOf yX4_downOf, Cond.code yX4_downOf cX4_downOf 3 (some .int)]
def wsX4_tick : List Cond := .code yX4_tick cX4_tick 3 none :: ((wsX4_tick_r1 ++ wsX4_tick_r2) ++ wsX40)
def wsX4_skewOf : List Cond := .code yX4_skewOf cX4_skewOf 4 (some .int) :: ([.fieldLink RX4 22 "CloseClocksModel" "clockAt" "[I"] ++ wsX40)
def wsX4_local : List Cond := .code yX4_local cX4_local 4 (some .int) :: ([.fieldLink RX4 112 "CloseClocksModel" "nodes" "I", .methodLink RX4 140 yX4_areBeside, .instanceMethod yX4_areBeside, .selects RX4 yX4_areBeside yX4_areBeside, .initialized RX4, .code yX4_areBeside cX4_areBeside 3 (some .boolean), .fieldLink RX4 13 "CloseClocksModel" "delayOf" "[I", .constant RX4 96 (-100000001), .methodLink RX4 135 yX4_isNode, .instanceMethod yX4_isNode, .selects RX4 yX4_isNode yX4_isNode, .code yX4_isNode cX4_isNode 2 (some .boolean), .methodLink RX4 75 yX4_within, .static yX4_within, .code yX4_within cX4_within 3 (some .boolean), .methodLink RX4 175 yX4_skewOf, .instanceMethod yX4_skewOf, .selects RX4 yX4_skewOf yX4_skewOf, .code yX4_skewOf cX4_skewOf 4 (some .int), .fieldLink RX4 22 "CloseClocksModel" "clockAt" "[I"] ++ wsX40)
def wsX4_go_r1 : List Cond := [Cond.constant RX4 79 (-100000003), Cond.fieldLink RX4 112 "CloseClocksModel" "nodes" "I", Cond.fieldLink RX4 122 "CloseClocksModel" "ticks" "I", Cond.constant RX4 111 (-100000004), Cond.fieldLink RX4 169 "CloseClocksModel" "ticksEver" "I", Cond.fieldLink RX4 125 "CloseClocksModel" "mostLocal" "I", Cond.methodLink RX4 75 yX4_within, Cond.static yX4_within, Cond.initialized RX4, Cond.code yX4_within cX4_within 3 (some .boolean), Cond.methodLink RX4 166 yX4_tick, Cond.instanceMethod yX4_tick, Cond.selects RX4 yX4_tick yX4_tick, Cond.code yX4_tick cX4_tick 3 none, Cond.fieldLink RX4 42 "CloseClocksModel" "turnOf" "[I", Cond.constant RX4 96 (-100000001), Cond.fieldLink RX4 25 "CloseClocksModel" "isFast" "[Z", Cond.fieldLink RX4 29 "CloseClocksModel" "fastTicks" "[I", Cond.fieldLink RX4 22 "CloseClocksModel" "clockAt" "[I", Cond.fieldLink RX4 19 "CloseClocksModel" "rateOf" "[I", Cond.fieldLink RX4 36 "CloseClocksModel" "boost" "I", Cond.methodLink RX4 159 yX4_upOf, Cond.instanceMethod yX4_upOf, Cond.selects RX4 yX4_upOf yX4_upOf]
def wsX4_go_r2 : List Cond := [Cond.code yX4_upOf cX4_upOf 3 (some .int), Cond.methodLink RX4 151 yX4_off, Cond.instanceMethod yX4_off, Cond.selects RX4 yX4_off yX4_off, Cond.code yX4_off cX4_off 6 (some .int), Cond.methodLink RX4 140 yX4_areBeside, Cond.instanceMethod yX4_areBeside, Cond.selects RX4 yX4_areBeside yX4_areBeside, Cond.code yX4_areBeside cX4_areBeside 3 (some .boolean), Cond.fieldLink RX4 13 "CloseClocksModel" "delayOf" "[I", Cond.methodLink RX4 135 yX4_isNode, Cond.instanceMethod yX4_isNode, Cond.selects RX4 yX4_isNode yX4_isNode, Cond.code yX4_isNode cX4_isNode 2 (some .boolean), Cond.methodLink RX4 144 yX4_guess, Cond.instanceMethod yX4_guess, Cond.selects RX4 yX4_guess yX4_guess, Cond.code yX4_guess cX4_guess 4 (some .int), Cond.fieldLink RX4 16 "CloseClocksModel" "errorOf" "[I", Cond.methodLink RX4 155 yX4_trigger, Cond.instanceMethod yX4_trigger, Cond.selects RX4 yX4_trigger yX4_trigger, Cond.code yX4_trigger cX4_trigger 5 (some .int), Cond.fieldLink RX4 32 "CloseClocksModel" "step" "I"]
def wsX4_go_r3 : List Cond := [Cond.methodLink RX4 148 yX4_firstOf, Cond.instanceMethod yX4_firstOf, Cond.selects RX4 yX4_firstOf yX4_firstOf, Cond.code yX4_firstOf cX4_firstOf 4 (some .int), Cond.methodLink RX4 163 yX4_downOf, Cond.instanceMethod yX4_downOf, Cond.selects RX4 yX4_downOf yX4_downOf, Cond.code yX4_downOf cX4_downOf 3 (some .int), Cond.methodLink RX4 172 yX4_local, Cond.instanceMethod yX4_local, Cond.selects RX4 yX4_local yX4_local, Cond.code yX4_local cX4_local 4 (some .int), Cond.methodLink RX4 175 yX4_skewOf, Cond.instanceMethod yX4_skewOf, Cond.selects RX4 yX4_skewOf yX4_skewOf, Cond.code yX4_skewOf cX4_skewOf 4 (some .int)]
def wsX4_go : List Cond := .code yX4_go cX4_go 3 (some .int) :: ((wsX4_go_r1 ++ (wsX4_go_r2 ++ wsX4_go_r3)) ++ wsX40)
def wsX4_global : List Cond := .code yX4_global cX4_global 4 (some .int) :: ([.fieldLink RX4 112 "CloseClocksModel" "nodes" "I", .methodLink RX4 175 yX4_skewOf, .instanceMethod yX4_skewOf, .selects RX4 yX4_skewOf yX4_skewOf, .initialized RX4, .code yX4_skewOf cX4_skewOf 4 (some .int), .fieldLink RX4 22 "CloseClocksModel" "clockAt" "[I"] ++ wsX40)
def wsX4_levelNow_r1 : List Cond := [Cond.methodLink RX4 172 yX4_local, Cond.instanceMethod yX4_local, Cond.selects RX4 yX4_local yX4_local, Cond.initialized RX4, Cond.code yX4_local cX4_local 4 (some .int), Cond.fieldLink RX4 112 "CloseClocksModel" "nodes" "I", Cond.methodLink RX4 140 yX4_areBeside, Cond.instanceMethod yX4_areBeside, Cond.selects RX4 yX4_areBeside yX4_areBeside, Cond.code yX4_areBeside cX4_areBeside 3 (some .boolean), Cond.fieldLink RX4 13 "CloseClocksModel" "delayOf" "[I", Cond.constant RX4 96 (-100000001), Cond.methodLink RX4 135 yX4_isNode, Cond.instanceMethod yX4_isNode, Cond.selects RX4 yX4_isNode yX4_isNode, Cond.code yX4_isNode cX4_isNode 2 (some .boolean), Cond.methodLink RX4 75 yX4_within, Cond.static yX4_within, Cond.code yX4_within cX4_within 3 (some .boolean), Cond.methodLink RX4 175 yX4_skewOf, Cond.instanceMethod yX4_skewOf, Cond.selects RX4 yX4_skewOf yX4_skewOf, Cond.code yX4_skewOf cX4_skewOf 4 (some .int), Cond.fieldLink RX4 22 "CloseClocksModel" "clockAt" "[I"]
def wsX4_levelNow_r2 : List Cond := [Cond.methodLink RX4 148 yX4_firstOf, Cond.instanceMethod yX4_firstOf, Cond.selects RX4 yX4_firstOf yX4_firstOf, Cond.code yX4_firstOf cX4_firstOf 4 (some .int), Cond.fieldLink RX4 32 "CloseClocksModel" "step" "I"]
def wsX4_levelNow : List Cond := .code yX4_levelNow cX4_levelNow 1 (some .int) :: ((wsX4_levelNow_r1 ++ wsX4_levelNow_r2) ++ wsX40)
def wsX4_hopsNow : List Cond := .code yX4_hopsNow cX4_hopsNow 7 (some .int) :: ([.constant RX4 96 (-100000001), .methodLink RX4 140 yX4_areBeside, .instanceMethod yX4_areBeside, .selects RX4 yX4_areBeside yX4_areBeside, .initialized RX4, .code yX4_areBeside cX4_areBeside 3 (some .boolean), .fieldLink RX4 13 "CloseClocksModel" "delayOf" "[I", .methodLink RX4 135 yX4_isNode, .instanceMethod yX4_isNode, .selects RX4 yX4_isNode yX4_isNode, .code yX4_isNode cX4_isNode 2 (some .boolean), .fieldLink RX4 112 "CloseClocksModel" "nodes" "I", .methodLink RX4 75 yX4_within, .static yX4_within, .code yX4_within cX4_within 3 (some .boolean)] ++ wsX40)
def wsX4_hops : List Cond := .code yX4_hops cX4_hops 3 (some .int) :: ([.constant RX4 138 (-100000002), .methodLink RX4 135 yX4_isNode, .instanceMethod yX4_isNode, .selects RX4 yX4_isNode yX4_isNode, .initialized RX4, .code yX4_isNode cX4_isNode 2 (some .boolean), .fieldLink RX4 112 "CloseClocksModel" "nodes" "I", .methodLink RX4 75 yX4_within, .static yX4_within, .code yX4_within cX4_within 3 (some .boolean), .methodLink RX4 178 yX4_hopsNow, .instanceMethod yX4_hopsNow, .selects RX4 yX4_hopsNow yX4_hopsNow, .code yX4_hopsNow cX4_hopsNow 7 (some .int), .constant RX4 96 (-100000001), .methodLink RX4 140 yX4_areBeside, .instanceMethod yX4_areBeside, .selects RX4 yX4_areBeside yX4_areBeside, .code yX4_areBeside cX4_areBeside 3 (some .boolean), .fieldLink RX4 13 "CloseClocksModel" "delayOf" "[I"] ++ wsX40)
def wsX4_skewNow_r1 : List Cond := [Cond.fieldLink RX4 125 "CloseClocksModel" "mostLocal" "I", Cond.methodLink RX4 172 yX4_local, Cond.instanceMethod yX4_local, Cond.selects RX4 yX4_local yX4_local, Cond.initialized RX4, Cond.code yX4_local cX4_local 4 (some .int), Cond.fieldLink RX4 112 "CloseClocksModel" "nodes" "I", Cond.methodLink RX4 140 yX4_areBeside, Cond.instanceMethod yX4_areBeside, Cond.selects RX4 yX4_areBeside yX4_areBeside, Cond.code yX4_areBeside cX4_areBeside 3 (some .boolean), Cond.fieldLink RX4 13 "CloseClocksModel" "delayOf" "[I", Cond.constant RX4 96 (-100000001), Cond.methodLink RX4 135 yX4_isNode, Cond.instanceMethod yX4_isNode, Cond.selects RX4 yX4_isNode yX4_isNode, Cond.code yX4_isNode cX4_isNode 2 (some .boolean), Cond.methodLink RX4 75 yX4_within, Cond.static yX4_within, Cond.code yX4_within cX4_within 3 (some .boolean), Cond.methodLink RX4 175 yX4_skewOf, Cond.instanceMethod yX4_skewOf, Cond.selects RX4 yX4_skewOf yX4_skewOf, Cond.code yX4_skewOf cX4_skewOf 4 (some .int)]
def wsX4_skewNow_r2 : List Cond := [Cond.fieldLink RX4 22 "CloseClocksModel" "clockAt" "[I", Cond.methodLink RX4 181 yX4_global, Cond.instanceMethod yX4_global, Cond.selects RX4 yX4_global yX4_global, Cond.code yX4_global cX4_global 4 (some .int), Cond.methodLink RX4 184 yX4_levelNow, Cond.instanceMethod yX4_levelNow, Cond.selects RX4 yX4_levelNow yX4_levelNow, Cond.code yX4_levelNow cX4_levelNow 1 (some .int), Cond.methodLink RX4 148 yX4_firstOf, Cond.instanceMethod yX4_firstOf, Cond.selects RX4 yX4_firstOf yX4_firstOf, Cond.code yX4_firstOf cX4_firstOf 4 (some .int), Cond.fieldLink RX4 32 "CloseClocksModel" "step" "I"]
def wsX4_skewNow : List Cond := .code yX4_skewNow cX4_skewNow 2 (some .int) :: ((wsX4_skewNow_r1 ++ wsX4_skewNow_r2) ++ wsX40)
def wsX4_skew_r1 : List Cond := [Cond.constant RX4 79 (-100000003), Cond.fieldLink RX4 112 "CloseClocksModel" "nodes" "I", Cond.constant RX4 111 (-100000004), Cond.methodLink RX4 75 yX4_within, Cond.static yX4_within, Cond.initialized RX4, Cond.code yX4_within cX4_within 3 (some .boolean), Cond.methodLink RX4 187 yX4_skewNow, Cond.instanceMethod yX4_skewNow, Cond.selects RX4 yX4_skewNow yX4_skewNow, Cond.code yX4_skewNow cX4_skewNow 2 (some .int), Cond.fieldLink RX4 125 "CloseClocksModel" "mostLocal" "I", Cond.methodLink RX4 172 yX4_local, Cond.instanceMethod yX4_local, Cond.selects RX4 yX4_local yX4_local, Cond.code yX4_local cX4_local 4 (some .int), Cond.methodLink RX4 140 yX4_areBeside, Cond.instanceMethod yX4_areBeside, Cond.selects RX4 yX4_areBeside yX4_areBeside, Cond.code yX4_areBeside cX4_areBeside 3 (some .boolean), Cond.fieldLink RX4 13 "CloseClocksModel" "delayOf" "[I", Cond.constant RX4 96 (-100000001), Cond.methodLink RX4 135 yX4_isNode, Cond.instanceMethod yX4_isNode]
def wsX4_skew_r2 : List Cond := [Cond.selects RX4 yX4_isNode yX4_isNode, Cond.code yX4_isNode cX4_isNode 2 (some .boolean), Cond.methodLink RX4 175 yX4_skewOf, Cond.instanceMethod yX4_skewOf, Cond.selects RX4 yX4_skewOf yX4_skewOf, Cond.code yX4_skewOf cX4_skewOf 4 (some .int), Cond.fieldLink RX4 22 "CloseClocksModel" "clockAt" "[I", Cond.methodLink RX4 181 yX4_global, Cond.instanceMethod yX4_global, Cond.selects RX4 yX4_global yX4_global, Cond.code yX4_global cX4_global 4 (some .int), Cond.methodLink RX4 184 yX4_levelNow, Cond.instanceMethod yX4_levelNow, Cond.selects RX4 yX4_levelNow yX4_levelNow, Cond.code yX4_levelNow cX4_levelNow 1 (some .int), Cond.methodLink RX4 148 yX4_firstOf, Cond.instanceMethod yX4_firstOf, Cond.selects RX4 yX4_firstOf yX4_firstOf, Cond.code yX4_firstOf cX4_firstOf 4 (some .int), Cond.fieldLink RX4 32 "CloseClocksModel" "step" "I"]
def wsX4_skew : List Cond := .code yX4_skew cX4_skew 2 (some .int) :: ((wsX4_skew_r1 ++ wsX4_skew_r2) ++ wsX40)
def wsX4_spreadNow : List Cond := .code yX4_spreadNow cX4_spreadNow 5 (some .int) :: ([.constant RX4 96 (-100000001), .fieldLink RX4 112 "CloseClocksModel" "nodes" "I", .methodLink RX4 178 yX4_hopsNow, .instanceMethod yX4_hopsNow, .selects RX4 yX4_hopsNow yX4_hopsNow, .initialized RX4, .code yX4_hopsNow cX4_hopsNow 7 (some .int), .methodLink RX4 140 yX4_areBeside, .instanceMethod yX4_areBeside, .selects RX4 yX4_areBeside yX4_areBeside, .code yX4_areBeside cX4_areBeside 3 (some .boolean), .fieldLink RX4 13 "CloseClocksModel" "delayOf" "[I", .methodLink RX4 135 yX4_isNode, .instanceMethod yX4_isNode, .selects RX4 yX4_isNode yX4_isNode, .code yX4_isNode cX4_isNode 2 (some .boolean), .methodLink RX4 75 yX4_within, .static yX4_within, .code yX4_within cX4_within 3 (some .boolean), .methodLink RX4 175 yX4_skewOf, .instanceMethod yX4_skewOf, .selects RX4 yX4_skewOf yX4_skewOf, .code yX4_skewOf cX4_skewOf 4 (some .int), .fieldLink RX4 22 "CloseClocksModel" "clockAt" "[I"] ++ wsX40)
def wsX4_spread_r1 : List Cond := [Cond.constant RX4 79 (-100000003), Cond.fieldLink RX4 112 "CloseClocksModel" "nodes" "I", Cond.constant RX4 111 (-100000004), Cond.methodLink RX4 75 yX4_within, Cond.static yX4_within, Cond.initialized RX4, Cond.code yX4_within cX4_within 3 (some .boolean), Cond.methodLink RX4 190 yX4_spreadNow, Cond.instanceMethod yX4_spreadNow, Cond.selects RX4 yX4_spreadNow yX4_spreadNow, Cond.code yX4_spreadNow cX4_spreadNow 5 (some .int), Cond.constant RX4 96 (-100000001), Cond.methodLink RX4 178 yX4_hopsNow, Cond.instanceMethod yX4_hopsNow, Cond.selects RX4 yX4_hopsNow yX4_hopsNow, Cond.code yX4_hopsNow cX4_hopsNow 7 (some .int), Cond.methodLink RX4 140 yX4_areBeside, Cond.instanceMethod yX4_areBeside, Cond.selects RX4 yX4_areBeside yX4_areBeside, Cond.code yX4_areBeside cX4_areBeside 3 (some .boolean), Cond.fieldLink RX4 13 "CloseClocksModel" "delayOf" "[I", Cond.methodLink RX4 135 yX4_isNode, Cond.instanceMethod yX4_isNode, Cond.selects RX4 yX4_isNode yX4_isNode]
def wsX4_spread_r2 : List Cond := [Cond.code yX4_isNode cX4_isNode 2 (some .boolean), Cond.methodLink RX4 175 yX4_skewOf, Cond.instanceMethod yX4_skewOf, Cond.selects RX4 yX4_skewOf yX4_skewOf, Cond.code yX4_skewOf cX4_skewOf 4 (some .int), Cond.fieldLink RX4 22 "CloseClocksModel" "clockAt" "[I"]
def wsX4_spread : List Cond := .code yX4_spread cX4_spread 2 (some .int) :: ((wsX4_spread_r1 ++ wsX4_spread_r2) ++ wsX40)
def wsX4_setAside : List Cond := .code yX4_setAside cX4_setAside 2 none :: ([.fieldLink RX4 45 "CloseClocksModel" "triedClocks" "[I", .fieldLink RX4 22 "CloseClocksModel" "clockAt" "[I", .fieldLink RX4 48 "CloseClocksModel" "triedRates" "[I", .fieldLink RX4 19 "CloseClocksModel" "rateOf" "[I", .fieldLink RX4 51 "CloseClocksModel" "triedFast" "[Z", .fieldLink RX4 25 "CloseClocksModel" "isFast" "[Z", .fieldLink RX4 54 "CloseClocksModel" "triedTicks" "[I", .fieldLink RX4 29 "CloseClocksModel" "fastTicks" "[I"] ++ wsX40)
def wsX4_setBack : List Cond := .code yX4_setBack cX4_setBack 2 none :: ([.fieldLink RX4 22 "CloseClocksModel" "clockAt" "[I", .fieldLink RX4 45 "CloseClocksModel" "triedClocks" "[I", .fieldLink RX4 19 "CloseClocksModel" "rateOf" "[I", .fieldLink RX4 48 "CloseClocksModel" "triedRates" "[I", .fieldLink RX4 25 "CloseClocksModel" "isFast" "[Z", .fieldLink RX4 51 "CloseClocksModel" "triedFast" "[Z", .fieldLink RX4 29 "CloseClocksModel" "fastTicks" "[I", .fieldLink RX4 54 "CloseClocksModel" "triedTicks" "[I"] ++ wsX40)
def wsX4_layWorst_r1 : List Cond := [Cond.constant RX4 96 (-100000001), Cond.fieldLink RX4 193 "CloseClocksModel" "worstMost" "I", Cond.fieldLink RX4 196 "CloseClocksModel" "worstBy" "I", Cond.fieldLink RX4 112 "CloseClocksModel" "nodes" "I", Cond.fieldLink RX4 19 "CloseClocksModel" "rateOf" "[I", Cond.methodLink RX4 199 yX4_setAside, Cond.instanceMethod yX4_setAside, Cond.selects RX4 yX4_setAside yX4_setAside, Cond.initialized RX4, Cond.code yX4_setAside cX4_setAside 2 none, Cond.fieldLink RX4 45 "CloseClocksModel" "triedClocks" "[I", Cond.fieldLink RX4 22 "CloseClocksModel" "clockAt" "[I", Cond.fieldLink RX4 48 "CloseClocksModel" "triedRates" "[I", Cond.fieldLink RX4 51 "CloseClocksModel" "triedFast" "[Z", Cond.fieldLink RX4 25 "CloseClocksModel" "isFast" "[Z", Cond.fieldLink RX4 54 "CloseClocksModel" "triedTicks" "[I", Cond.fieldLink RX4 29 "CloseClocksModel" "fastTicks" "[I", Cond.methodLink RX4 166 yX4_tick, Cond.instanceMethod yX4_tick, Cond.selects RX4 yX4_tick yX4_tick, Cond.code yX4_tick cX4_tick 3 none, Cond.fieldLink RX4 42 "CloseClocksModel" "turnOf" "[I", Cond.fieldLink RX4 36 "CloseClocksModel" "boost" "I", Cond.methodLink RX4 159 yX4_upOf]
def wsX4_layWorst_r2 : List Cond := [Cond.instanceMethod yX4_upOf, Cond.selects RX4 yX4_upOf yX4_upOf, Cond.code yX4_upOf cX4_upOf 3 (some .int), Cond.methodLink RX4 151 yX4_off, Cond.instanceMethod yX4_off, Cond.selects RX4 yX4_off yX4_off, Cond.code yX4_off cX4_off 6 (some .int), Cond.methodLink RX4 140 yX4_areBeside, Cond.instanceMethod yX4_areBeside, Cond.selects RX4 yX4_areBeside yX4_areBeside, Cond.code yX4_areBeside cX4_areBeside 3 (some .boolean), Cond.fieldLink RX4 13 "CloseClocksModel" "delayOf" "[I", Cond.methodLink RX4 135 yX4_isNode, Cond.instanceMethod yX4_isNode, Cond.selects RX4 yX4_isNode yX4_isNode, Cond.code yX4_isNode cX4_isNode 2 (some .boolean), Cond.methodLink RX4 75 yX4_within, Cond.static yX4_within, Cond.code yX4_within cX4_within 3 (some .boolean), Cond.methodLink RX4 144 yX4_guess, Cond.instanceMethod yX4_guess, Cond.selects RX4 yX4_guess yX4_guess, Cond.code yX4_guess cX4_guess 4 (some .int), Cond.fieldLink RX4 16 "CloseClocksModel" "errorOf" "[I"]
def wsX4_layWorst_r3 : List Cond := [Cond.methodLink RX4 155 yX4_trigger, Cond.instanceMethod yX4_trigger, Cond.selects RX4 yX4_trigger yX4_trigger, Cond.code yX4_trigger cX4_trigger 5 (some .int), Cond.fieldLink RX4 32 "CloseClocksModel" "step" "I", Cond.methodLink RX4 148 yX4_firstOf, Cond.instanceMethod yX4_firstOf, Cond.selects RX4 yX4_firstOf yX4_firstOf, Cond.code yX4_firstOf cX4_firstOf 4 (some .int), Cond.methodLink RX4 163 yX4_downOf, Cond.instanceMethod yX4_downOf, Cond.selects RX4 yX4_downOf yX4_downOf, Cond.code yX4_downOf cX4_downOf 3 (some .int), Cond.methodLink RX4 172 yX4_local, Cond.instanceMethod yX4_local, Cond.selects RX4 yX4_local yX4_local, Cond.code yX4_local cX4_local 4 (some .int), Cond.methodLink RX4 175 yX4_skewOf, Cond.instanceMethod yX4_skewOf, Cond.selects RX4 yX4_skewOf yX4_skewOf, Cond.code yX4_skewOf cX4_skewOf 4 (some .int), Cond.methodLink RX4 202 yX4_setBack, Cond.instanceMethod yX4_setBack, Cond.selects RX4 yX4_setBack yX4_setBack]
def wsX4_layWorst_r4 : List Cond := [Cond.code yX4_setBack cX4_setBack 2 none]
def wsX4_layWorst : List Cond := .code yX4_layWorst cX4_layWorst 4 none :: ((wsX4_layWorst_r1 ++ (wsX4_layWorst_r2 ++ (wsX4_layWorst_r3 ++ wsX4_layWorst_r4))) ++ wsX40)
def wsX4_worstNow_r1 : List Cond := [Cond.fieldLink RX4 193 "CloseClocksModel" "worstMost" "I", Cond.fieldLink RX4 196 "CloseClocksModel" "worstBy" "I", Cond.methodLink RX4 205 yX4_layWorst, Cond.instanceMethod yX4_layWorst, Cond.selects RX4 yX4_layWorst yX4_layWorst, Cond.initialized RX4, Cond.code yX4_layWorst cX4_layWorst 4 none, Cond.constant RX4 96 (-100000001), Cond.fieldLink RX4 112 "CloseClocksModel" "nodes" "I", Cond.fieldLink RX4 19 "CloseClocksModel" "rateOf" "[I", Cond.methodLink RX4 199 yX4_setAside, Cond.instanceMethod yX4_setAside, Cond.selects RX4 yX4_setAside yX4_setAside, Cond.code yX4_setAside cX4_setAside 2 none, Cond.fieldLink RX4 45 "CloseClocksModel" "triedClocks" "[I", Cond.fieldLink RX4 22 "CloseClocksModel" "clockAt" "[I", Cond.fieldLink RX4 48 "CloseClocksModel" "triedRates" "[I", Cond.fieldLink RX4 51 "CloseClocksModel" "triedFast" "[Z", Cond.fieldLink RX4 25 "CloseClocksModel" "isFast" "[Z", Cond.fieldLink RX4 54 "CloseClocksModel" "triedTicks" "[I", Cond.fieldLink RX4 29 "CloseClocksModel" "fastTicks" "[I", Cond.methodLink RX4 166 yX4_tick, Cond.instanceMethod yX4_tick, Cond.selects RX4 yX4_tick yX4_tick]
def wsX4_worstNow_r2 : List Cond := [Cond.code yX4_tick cX4_tick 3 none, Cond.fieldLink RX4 42 "CloseClocksModel" "turnOf" "[I", Cond.fieldLink RX4 36 "CloseClocksModel" "boost" "I", Cond.methodLink RX4 159 yX4_upOf, Cond.instanceMethod yX4_upOf, Cond.selects RX4 yX4_upOf yX4_upOf, Cond.code yX4_upOf cX4_upOf 3 (some .int), Cond.methodLink RX4 151 yX4_off, Cond.instanceMethod yX4_off, Cond.selects RX4 yX4_off yX4_off, Cond.code yX4_off cX4_off 6 (some .int), Cond.methodLink RX4 140 yX4_areBeside, Cond.instanceMethod yX4_areBeside, Cond.selects RX4 yX4_areBeside yX4_areBeside, Cond.code yX4_areBeside cX4_areBeside 3 (some .boolean), Cond.fieldLink RX4 13 "CloseClocksModel" "delayOf" "[I", Cond.methodLink RX4 135 yX4_isNode, Cond.instanceMethod yX4_isNode, Cond.selects RX4 yX4_isNode yX4_isNode, Cond.code yX4_isNode cX4_isNode 2 (some .boolean), Cond.methodLink RX4 75 yX4_within, Cond.static yX4_within, Cond.code yX4_within cX4_within 3 (some .boolean), Cond.methodLink RX4 144 yX4_guess]
def wsX4_worstNow_r3 : List Cond := [Cond.instanceMethod yX4_guess, Cond.selects RX4 yX4_guess yX4_guess, Cond.code yX4_guess cX4_guess 4 (some .int), Cond.fieldLink RX4 16 "CloseClocksModel" "errorOf" "[I", Cond.methodLink RX4 155 yX4_trigger, Cond.instanceMethod yX4_trigger, Cond.selects RX4 yX4_trigger yX4_trigger, Cond.code yX4_trigger cX4_trigger 5 (some .int), Cond.fieldLink RX4 32 "CloseClocksModel" "step" "I", Cond.methodLink RX4 148 yX4_firstOf, Cond.instanceMethod yX4_firstOf, Cond.selects RX4 yX4_firstOf yX4_firstOf, Cond.code yX4_firstOf cX4_firstOf 4 (some .int), Cond.methodLink RX4 163 yX4_downOf, Cond.instanceMethod yX4_downOf, Cond.selects RX4 yX4_downOf yX4_downOf, Cond.code yX4_downOf cX4_downOf 3 (some .int), Cond.methodLink RX4 172 yX4_local, Cond.instanceMethod yX4_local, Cond.selects RX4 yX4_local yX4_local, Cond.code yX4_local cX4_local 4 (some .int), Cond.methodLink RX4 175 yX4_skewOf, Cond.instanceMethod yX4_skewOf, Cond.selects RX4 yX4_skewOf yX4_skewOf]
def wsX4_worstNow_r4 : List Cond := [Cond.code yX4_skewOf cX4_skewOf 4 (some .int), Cond.methodLink RX4 202 yX4_setBack, Cond.instanceMethod yX4_setBack, Cond.selects RX4 yX4_setBack yX4_setBack, Cond.code yX4_setBack cX4_setBack 2 none]
def wsX4_worstNow : List Cond := .code yX4_worstNow cX4_worstNow 3 (some .int) :: ((wsX4_worstNow_r1 ++ (wsX4_worstNow_r2 ++ (wsX4_worstNow_r3 ++ wsX4_worstNow_r4))) ++ wsX40)
def wsX4_worst_r1 : List Cond := [Cond.constant RX4 79 (-100000003), Cond.fieldLink RX4 112 "CloseClocksModel" "nodes" "I", Cond.constant RX4 111 (-100000004), Cond.methodLink RX4 75 yX4_within, Cond.static yX4_within, Cond.initialized RX4, Cond.code yX4_within cX4_within 3 (some .boolean), Cond.methodLink RX4 209 yX4_worstNow, Cond.instanceMethod yX4_worstNow, Cond.selects RX4 yX4_worstNow yX4_worstNow, Cond.code yX4_worstNow cX4_worstNow 3 (some .int), Cond.fieldLink RX4 193 "CloseClocksModel" "worstMost" "I", Cond.fieldLink RX4 196 "CloseClocksModel" "worstBy" "I", Cond.methodLink RX4 205 yX4_layWorst, Cond.instanceMethod yX4_layWorst, Cond.selects RX4 yX4_layWorst yX4_layWorst, Cond.code yX4_layWorst cX4_layWorst 4 none, Cond.constant RX4 96 (-100000001), Cond.fieldLink RX4 19 "CloseClocksModel" "rateOf" "[I", Cond.methodLink RX4 199 yX4_setAside, Cond.instanceMethod yX4_setAside, Cond.selects RX4 yX4_setAside yX4_setAside, Cond.code yX4_setAside cX4_setAside 2 none, Cond.fieldLink RX4 45 "CloseClocksModel" "triedClocks" "[I"]
def wsX4_worst_r2 : List Cond := [Cond.fieldLink RX4 22 "CloseClocksModel" "clockAt" "[I", Cond.fieldLink RX4 48 "CloseClocksModel" "triedRates" "[I", Cond.fieldLink RX4 51 "CloseClocksModel" "triedFast" "[Z", Cond.fieldLink RX4 25 "CloseClocksModel" "isFast" "[Z", Cond.fieldLink RX4 54 "CloseClocksModel" "triedTicks" "[I", Cond.fieldLink RX4 29 "CloseClocksModel" "fastTicks" "[I", Cond.methodLink RX4 166 yX4_tick, Cond.instanceMethod yX4_tick, Cond.selects RX4 yX4_tick yX4_tick, Cond.code yX4_tick cX4_tick 3 none, Cond.fieldLink RX4 42 "CloseClocksModel" "turnOf" "[I", Cond.fieldLink RX4 36 "CloseClocksModel" "boost" "I", Cond.methodLink RX4 159 yX4_upOf, Cond.instanceMethod yX4_upOf, Cond.selects RX4 yX4_upOf yX4_upOf, Cond.code yX4_upOf cX4_upOf 3 (some .int), Cond.methodLink RX4 151 yX4_off, Cond.instanceMethod yX4_off, Cond.selects RX4 yX4_off yX4_off, Cond.code yX4_off cX4_off 6 (some .int), Cond.methodLink RX4 140 yX4_areBeside, Cond.instanceMethod yX4_areBeside, Cond.selects RX4 yX4_areBeside yX4_areBeside, Cond.code yX4_areBeside cX4_areBeside 3 (some .boolean)]
def wsX4_worst_r3 : List Cond := [Cond.fieldLink RX4 13 "CloseClocksModel" "delayOf" "[I", Cond.methodLink RX4 135 yX4_isNode, Cond.instanceMethod yX4_isNode, Cond.selects RX4 yX4_isNode yX4_isNode, Cond.code yX4_isNode cX4_isNode 2 (some .boolean), Cond.methodLink RX4 144 yX4_guess, Cond.instanceMethod yX4_guess, Cond.selects RX4 yX4_guess yX4_guess, Cond.code yX4_guess cX4_guess 4 (some .int), Cond.fieldLink RX4 16 "CloseClocksModel" "errorOf" "[I", Cond.methodLink RX4 155 yX4_trigger, Cond.instanceMethod yX4_trigger, Cond.selects RX4 yX4_trigger yX4_trigger, Cond.code yX4_trigger cX4_trigger 5 (some .int), Cond.fieldLink RX4 32 "CloseClocksModel" "step" "I", Cond.methodLink RX4 148 yX4_firstOf, Cond.instanceMethod yX4_firstOf, Cond.selects RX4 yX4_firstOf yX4_firstOf, Cond.code yX4_firstOf cX4_firstOf 4 (some .int), Cond.methodLink RX4 163 yX4_downOf, Cond.instanceMethod yX4_downOf, Cond.selects RX4 yX4_downOf yX4_downOf, Cond.code yX4_downOf cX4_downOf 3 (some .int), Cond.methodLink RX4 172 yX4_local]
def wsX4_worst_r4 : List Cond := [Cond.instanceMethod yX4_local, Cond.selects RX4 yX4_local yX4_local, Cond.code yX4_local cX4_local 4 (some .int), Cond.methodLink RX4 175 yX4_skewOf, Cond.instanceMethod yX4_skewOf, Cond.selects RX4 yX4_skewOf yX4_skewOf, Cond.code yX4_skewOf cX4_skewOf 4 (some .int), Cond.methodLink RX4 202 yX4_setBack, Cond.instanceMethod yX4_setBack, Cond.selects RX4 yX4_setBack yX4_setBack, Cond.code yX4_setBack cX4_setBack 2 none]
def wsX4_worst : List Cond := .code yX4_worst cX4_worst 3 (some .int) :: ((wsX4_worst_r1 ++ (wsX4_worst_r2 ++ (wsX4_worst_r3 ++ wsX4_worst_r4))) ++ wsX40)
def wsX4_besideOf : List Cond := .code yX4_besideOf cX4_besideOf 4 (some .int) :: ([.fieldLink RX4 112 "CloseClocksModel" "nodes" "I", .methodLink RX4 140 yX4_areBeside, .instanceMethod yX4_areBeside, .selects RX4 yX4_areBeside yX4_areBeside, .initialized RX4, .code yX4_areBeside cX4_areBeside 3 (some .boolean), .fieldLink RX4 13 "CloseClocksModel" "delayOf" "[I", .constant RX4 96 (-100000001), .methodLink RX4 135 yX4_isNode, .instanceMethod yX4_isNode, .selects RX4 yX4_isNode yX4_isNode, .code yX4_isNode cX4_isNode 2 (some .boolean), .methodLink RX4 75 yX4_within, .static yX4_within, .code yX4_within cX4_within 3 (some .boolean)] ++ wsX40)
def wsX4_nodeNow_r1 : List Cond := [Cond.fieldLink RX4 22 "CloseClocksModel" "clockAt" "[I", Cond.fieldLink RX4 19 "CloseClocksModel" "rateOf" "[I", Cond.fieldLink RX4 25 "CloseClocksModel" "isFast" "[Z", Cond.fieldLink RX4 29 "CloseClocksModel" "fastTicks" "[I", Cond.methodLink RX4 212 yX4_besideOf, Cond.instanceMethod yX4_besideOf, Cond.selects RX4 yX4_besideOf yX4_besideOf, Cond.initialized RX4, Cond.code yX4_besideOf cX4_besideOf 4 (some .int), Cond.fieldLink RX4 112 "CloseClocksModel" "nodes" "I", Cond.methodLink RX4 140 yX4_areBeside, Cond.instanceMethod yX4_areBeside, Cond.selects RX4 yX4_areBeside yX4_areBeside, Cond.code yX4_areBeside cX4_areBeside 3 (some .boolean), Cond.fieldLink RX4 13 "CloseClocksModel" "delayOf" "[I", Cond.constant RX4 96 (-100000001), Cond.methodLink RX4 135 yX4_isNode, Cond.instanceMethod yX4_isNode, Cond.selects RX4 yX4_isNode yX4_isNode, Cond.code yX4_isNode cX4_isNode 2 (some .boolean), Cond.methodLink RX4 75 yX4_within, Cond.static yX4_within, Cond.code yX4_within cX4_within 3 (some .boolean), Cond.methodLink RX4 151 yX4_off]
def wsX4_nodeNow_r2 : List Cond := [Cond.instanceMethod yX4_off, Cond.selects RX4 yX4_off yX4_off, Cond.code yX4_off cX4_off 6 (some .int), Cond.methodLink RX4 144 yX4_guess, Cond.instanceMethod yX4_guess, Cond.selects RX4 yX4_guess yX4_guess, Cond.code yX4_guess cX4_guess 4 (some .int), Cond.fieldLink RX4 16 "CloseClocksModel" "errorOf" "[I", Cond.methodLink RX4 159 yX4_upOf, Cond.instanceMethod yX4_upOf, Cond.selects RX4 yX4_upOf yX4_upOf, Cond.code yX4_upOf cX4_upOf 3 (some .int), Cond.methodLink RX4 155 yX4_trigger, Cond.instanceMethod yX4_trigger, Cond.selects RX4 yX4_trigger yX4_trigger, Cond.code yX4_trigger cX4_trigger 5 (some .int), Cond.fieldLink RX4 32 "CloseClocksModel" "step" "I", Cond.methodLink RX4 148 yX4_firstOf, Cond.instanceMethod yX4_firstOf, Cond.selects RX4 yX4_firstOf yX4_firstOf, Cond.code yX4_firstOf cX4_firstOf 4 (some .int), Cond.methodLink RX4 163 yX4_downOf, Cond.instanceMethod yX4_downOf, Cond.selects RX4 yX4_downOf yX4_downOf]
def wsX4_nodeNow_r3 : List Cond := [Cond.code yX4_downOf cX4_downOf 3 (some .int)]
def wsX4_nodeNow : List Cond := .code yX4_nodeNow cX4_nodeNow 3 (some .int) :: ((wsX4_nodeNow_r1 ++ (wsX4_nodeNow_r2 ++ wsX4_nodeNow_r3)) ++ wsX40)
def wsX4_node_r1 : List Cond := [Cond.constant RX4 138 (-100000002), Cond.constant RX4 79 (-100000003), Cond.methodLink RX4 135 yX4_isNode, Cond.instanceMethod yX4_isNode, Cond.selects RX4 yX4_isNode yX4_isNode, Cond.initialized RX4, Cond.code yX4_isNode cX4_isNode 2 (some .boolean), Cond.fieldLink RX4 112 "CloseClocksModel" "nodes" "I", Cond.methodLink RX4 75 yX4_within, Cond.static yX4_within, Cond.code yX4_within cX4_within 3 (some .boolean), Cond.methodLink RX4 215 yX4_nodeNow, Cond.instanceMethod yX4_nodeNow, Cond.selects RX4 yX4_nodeNow yX4_nodeNow, Cond.code yX4_nodeNow cX4_nodeNow 3 (some .int), Cond.fieldLink RX4 22 "CloseClocksModel" "clockAt" "[I", Cond.fieldLink RX4 19 "CloseClocksModel" "rateOf" "[I", Cond.fieldLink RX4 25 "CloseClocksModel" "isFast" "[Z", Cond.fieldLink RX4 29 "CloseClocksModel" "fastTicks" "[I", Cond.methodLink RX4 212 yX4_besideOf, Cond.instanceMethod yX4_besideOf, Cond.selects RX4 yX4_besideOf yX4_besideOf, Cond.code yX4_besideOf cX4_besideOf 4 (some .int), Cond.methodLink RX4 140 yX4_areBeside]
def wsX4_node_r2 : List Cond := [Cond.instanceMethod yX4_areBeside, Cond.selects RX4 yX4_areBeside yX4_areBeside, Cond.code yX4_areBeside cX4_areBeside 3 (some .boolean), Cond.fieldLink RX4 13 "CloseClocksModel" "delayOf" "[I", Cond.constant RX4 96 (-100000001), Cond.methodLink RX4 151 yX4_off, Cond.instanceMethod yX4_off, Cond.selects RX4 yX4_off yX4_off, Cond.code yX4_off cX4_off 6 (some .int), Cond.methodLink RX4 144 yX4_guess, Cond.instanceMethod yX4_guess, Cond.selects RX4 yX4_guess yX4_guess, Cond.code yX4_guess cX4_guess 4 (some .int), Cond.fieldLink RX4 16 "CloseClocksModel" "errorOf" "[I", Cond.methodLink RX4 159 yX4_upOf, Cond.instanceMethod yX4_upOf, Cond.selects RX4 yX4_upOf yX4_upOf, Cond.code yX4_upOf cX4_upOf 3 (some .int), Cond.methodLink RX4 155 yX4_trigger, Cond.instanceMethod yX4_trigger, Cond.selects RX4 yX4_trigger yX4_trigger, Cond.code yX4_trigger cX4_trigger 5 (some .int), Cond.fieldLink RX4 32 "CloseClocksModel" "step" "I", Cond.methodLink RX4 148 yX4_firstOf]
def wsX4_node_r3 : List Cond := [Cond.instanceMethod yX4_firstOf, Cond.selects RX4 yX4_firstOf yX4_firstOf, Cond.code yX4_firstOf cX4_firstOf 4 (some .int), Cond.methodLink RX4 163 yX4_downOf, Cond.instanceMethod yX4_downOf, Cond.selects RX4 yX4_downOf yX4_downOf, Cond.code yX4_downOf cX4_downOf 3 (some .int)]
def wsX4_node : List Cond := .code yX4_node cX4_node 3 (some .int) :: ((wsX4_node_r1 ++ (wsX4_node_r2 ++ wsX4_node_r3)) ++ wsX40)
def wsX4_linkNow : List Cond := .code yX4_linkNow cX4_linkNow 4 (some .int) :: ([.fieldLink RX4 13 "CloseClocksModel" "delayOf" "[I", .fieldLink RX4 16 "CloseClocksModel" "errorOf" "[I", .methodLink RX4 144 yX4_guess, .instanceMethod yX4_guess, .selects RX4 yX4_guess yX4_guess, .initialized RX4, .code yX4_guess cX4_guess 4 (some .int), .fieldLink RX4 22 "CloseClocksModel" "clockAt" "[I", .methodLink RX4 175 yX4_skewOf, .instanceMethod yX4_skewOf, .selects RX4 yX4_skewOf yX4_skewOf, .code yX4_skewOf cX4_skewOf 4 (some .int)] ++ wsX40)
def wsX4_link_r1 : List Cond := [Cond.constant RX4 138 (-100000002), Cond.constant RX4 79 (-100000003), Cond.methodLink RX4 140 yX4_areBeside, Cond.instanceMethod yX4_areBeside, Cond.selects RX4 yX4_areBeside yX4_areBeside, Cond.initialized RX4, Cond.code yX4_areBeside cX4_areBeside 3 (some .boolean), Cond.fieldLink RX4 13 "CloseClocksModel" "delayOf" "[I", Cond.constant RX4 96 (-100000001), Cond.methodLink RX4 135 yX4_isNode, Cond.instanceMethod yX4_isNode, Cond.selects RX4 yX4_isNode yX4_isNode, Cond.code yX4_isNode cX4_isNode 2 (some .boolean), Cond.fieldLink RX4 112 "CloseClocksModel" "nodes" "I", Cond.methodLink RX4 75 yX4_within, Cond.static yX4_within, Cond.code yX4_within cX4_within 3 (some .boolean), Cond.methodLink RX4 218 yX4_linkNow, Cond.instanceMethod yX4_linkNow, Cond.selects RX4 yX4_linkNow yX4_linkNow, Cond.code yX4_linkNow cX4_linkNow 4 (some .int), Cond.fieldLink RX4 16 "CloseClocksModel" "errorOf" "[I", Cond.methodLink RX4 144 yX4_guess, Cond.instanceMethod yX4_guess]
def wsX4_link_r2 : List Cond := [Cond.selects RX4 yX4_guess yX4_guess, Cond.code yX4_guess cX4_guess 4 (some .int), Cond.fieldLink RX4 22 "CloseClocksModel" "clockAt" "[I", Cond.methodLink RX4 175 yX4_skewOf, Cond.instanceMethod yX4_skewOf, Cond.selects RX4 yX4_skewOf yX4_skewOf, Cond.code yX4_skewOf cX4_skewOf 4 (some .int)]
def wsX4_link : List Cond := .code yX4_link cX4_link 4 (some .int) :: ((wsX4_link_r1 ++ wsX4_link_r2) ++ wsX40)
def wsX4_image : List Cond := .code yX4_image cX4_image 2 (some .int) :: ([.fieldLink RX4 112 "CloseClocksModel" "nodes" "I", .constant RX4 111 (-100000004), .fieldLink RX4 128 "CloseClocksModel" "isKept" "Z", .fieldLink RX4 122 "CloseClocksModel" "ticks" "I", .fieldLink RX4 221 "CloseClocksModel" "keptTicks" "I", .fieldLink RX4 125 "CloseClocksModel" "mostLocal" "I", .fieldLink RX4 224 "CloseClocksModel" "keptLocal" "I", .fieldLink RX4 57 "CloseClocksModel" "keptClocks" "[I", .fieldLink RX4 22 "CloseClocksModel" "clockAt" "[I", .fieldLink RX4 63 "CloseClocksModel" "keptErrors" "[I", .fieldLink RX4 16 "CloseClocksModel" "errorOf" "[I", .fieldLink RX4 66 "CloseClocksModel" "keptDelays" "[I", .fieldLink RX4 13 "CloseClocksModel" "delayOf" "[I", .fieldLink RX4 60 "CloseClocksModel" "keptRates" "[I", .fieldLink RX4 19 "CloseClocksModel" "rateOf" "[I", .fieldLink RX4 69 "CloseClocksModel" "keptFast" "[Z", .fieldLink RX4 25 "CloseClocksModel" "isFast" "[Z", .fieldLink RX4 72 "CloseClocksModel" "keptFastTicks" "[I", .fieldLink RX4 29 "CloseClocksModel" "fastTicks" "[I"] ++ wsX40)
def wsX4_restore : List Cond := .code yX4_restore cX4_restore 2 (some .int) :: ([.fieldLink RX4 128 "CloseClocksModel" "isKept" "Z", .constant RX4 111 (-100000004), .fieldLink RX4 221 "CloseClocksModel" "keptTicks" "I", .fieldLink RX4 122 "CloseClocksModel" "ticks" "I", .fieldLink RX4 224 "CloseClocksModel" "keptLocal" "I", .fieldLink RX4 125 "CloseClocksModel" "mostLocal" "I", .fieldLink RX4 22 "CloseClocksModel" "clockAt" "[I", .fieldLink RX4 57 "CloseClocksModel" "keptClocks" "[I", .fieldLink RX4 16 "CloseClocksModel" "errorOf" "[I", .fieldLink RX4 63 "CloseClocksModel" "keptErrors" "[I", .fieldLink RX4 13 "CloseClocksModel" "delayOf" "[I", .fieldLink RX4 66 "CloseClocksModel" "keptDelays" "[I", .fieldLink RX4 19 "CloseClocksModel" "rateOf" "[I", .fieldLink RX4 60 "CloseClocksModel" "keptRates" "[I", .fieldLink RX4 25 "CloseClocksModel" "isFast" "[Z", .fieldLink RX4 69 "CloseClocksModel" "keptFast" "[Z", .fieldLink RX4 29 "CloseClocksModel" "fastTicks" "[I", .fieldLink RX4 72 "CloseClocksModel" "keptFastTicks" "[I"] ++ wsX40)
def wsX4_fastMany : List Cond := .code yX4_fastMany cX4_fastMany 3 (some .int) :: ([.fieldLink RX4 112 "CloseClocksModel" "nodes" "I", .fieldLink RX4 25 "CloseClocksModel" "isFast" "[Z"] ++ wsX40)
def wsX4_howMany : List Cond := .code yX4_howMany cX4_howMany 2 (some .int) :: ([.fieldLink RX4 112 "CloseClocksModel" "nodes" "I", .fieldLink RX4 115 "CloseClocksModel" "links" "I", .fieldLink RX4 80 "CloseClocksModel" "pageLength" "I", .fieldLink RX4 122 "CloseClocksModel" "ticks" "I", .fieldLink RX4 32 "CloseClocksModel" "step" "I", .fieldLink RX4 36 "CloseClocksModel" "boost" "I", .fieldLink RX4 132 "CloseClocksModel" "netsRead" "I", .fieldLink RX4 169 "CloseClocksModel" "ticksEver" "I", .constant RX4 79 (-100000003), .methodLink RX4 227 yX4_fastMany, .instanceMethod yX4_fastMany, .selects RX4 yX4_fastMany yX4_fastMany, .initialized RX4, .code yX4_fastMany cX4_fastMany 3 (some .int), .fieldLink RX4 25 "CloseClocksModel" "isFast" "[Z"] ++ wsX40)
def wsX4_count : List Cond := .code yX4_count cX4_count 2 (some .int) :: ([.methodLink RX4 230 yX4_howMany, .instanceMethod yX4_howMany, .selects RX4 yX4_howMany yX4_howMany, .initialized RX4, .code yX4_howMany cX4_howMany 2 (some .int), .fieldLink RX4 112 "CloseClocksModel" "nodes" "I", .fieldLink RX4 115 "CloseClocksModel" "links" "I", .fieldLink RX4 80 "CloseClocksModel" "pageLength" "I", .fieldLink RX4 122 "CloseClocksModel" "ticks" "I", .fieldLink RX4 32 "CloseClocksModel" "step" "I", .fieldLink RX4 36 "CloseClocksModel" "boost" "I", .fieldLink RX4 132 "CloseClocksModel" "netsRead" "I", .fieldLink RX4 169 "CloseClocksModel" "ticksEver" "I", .constant RX4 79 (-100000003), .methodLink RX4 227 yX4_fastMany, .instanceMethod yX4_fastMany, .selects RX4 yX4_fastMany yX4_fastMany, .code yX4_fastMany cX4_fastMany 3 (some .int), .fieldLink RX4 25 "CloseClocksModel" "isFast" "[Z"] ++ wsX40)
def wsX4_mix : List Cond := .code yX4_mix cX4_mix 3 none :: ([.constantLong RX4 233 (31), .fieldLink RX4 235 "CloseClocksModel" "h" "J"] ++ wsX40)
def wsX4_mixLinks_r1 : List Cond := [Cond.fieldLink RX4 112 "CloseClocksModel" "nodes" "I", Cond.methodLink RX4 140 yX4_areBeside, Cond.instanceMethod yX4_areBeside, Cond.selects RX4 yX4_areBeside yX4_areBeside, Cond.initialized RX4, Cond.code yX4_areBeside cX4_areBeside 3 (some .boolean), Cond.fieldLink RX4 13 "CloseClocksModel" "delayOf" "[I", Cond.constant RX4 96 (-100000001), Cond.methodLink RX4 135 yX4_isNode, Cond.instanceMethod yX4_isNode, Cond.selects RX4 yX4_isNode yX4_isNode, Cond.code yX4_isNode cX4_isNode 2 (some .boolean), Cond.methodLink RX4 75 yX4_within, Cond.static yX4_within, Cond.code yX4_within cX4_within 3 (some .boolean), Cond.methodLink RX4 218 yX4_linkNow, Cond.instanceMethod yX4_linkNow, Cond.selects RX4 yX4_linkNow yX4_linkNow, Cond.code yX4_linkNow cX4_linkNow 4 (some .int), Cond.fieldLink RX4 16 "CloseClocksModel" "errorOf" "[I", Cond.methodLink RX4 144 yX4_guess, Cond.instanceMethod yX4_guess, Cond.selects RX4 yX4_guess yX4_guess, Cond.code yX4_guess cX4_guess 4 (some .int)]
def wsX4_mixLinks_r2 : List Cond := [Cond.fieldLink RX4 22 "CloseClocksModel" "clockAt" "[I", Cond.methodLink RX4 175 yX4_skewOf, Cond.instanceMethod yX4_skewOf, Cond.selects RX4 yX4_skewOf yX4_skewOf, Cond.code yX4_skewOf cX4_skewOf 4 (some .int), Cond.methodLink RX4 239 yX4_mix, Cond.instanceMethod yX4_mix, Cond.selects RX4 yX4_mix yX4_mix, Cond.code yX4_mix cX4_mix 3 none, Cond.constantLong RX4 233 (31), Cond.fieldLink RX4 235 "CloseClocksModel" "h" "J"]
def wsX4_mixLinks : List Cond := .code yX4_mixLinks cX4_mixLinks 4 none :: ((wsX4_mixLinks_r1 ++ wsX4_mixLinks_r2) ++ wsX40)
def wsX4_mixSkews_r1 : List Cond := [Cond.methodLink RX4 187 yX4_skewNow, Cond.instanceMethod yX4_skewNow, Cond.selects RX4 yX4_skewNow yX4_skewNow, Cond.initialized RX4, Cond.code yX4_skewNow cX4_skewNow 2 (some .int), Cond.fieldLink RX4 125 "CloseClocksModel" "mostLocal" "I", Cond.methodLink RX4 172 yX4_local, Cond.instanceMethod yX4_local, Cond.selects RX4 yX4_local yX4_local, Cond.code yX4_local cX4_local 4 (some .int), Cond.fieldLink RX4 112 "CloseClocksModel" "nodes" "I", Cond.methodLink RX4 140 yX4_areBeside, Cond.instanceMethod yX4_areBeside, Cond.selects RX4 yX4_areBeside yX4_areBeside, Cond.code yX4_areBeside cX4_areBeside 3 (some .boolean), Cond.fieldLink RX4 13 "CloseClocksModel" "delayOf" "[I", Cond.constant RX4 96 (-100000001), Cond.methodLink RX4 135 yX4_isNode, Cond.instanceMethod yX4_isNode, Cond.selects RX4 yX4_isNode yX4_isNode, Cond.code yX4_isNode cX4_isNode 2 (some .boolean), Cond.methodLink RX4 75 yX4_within, Cond.static yX4_within, Cond.code yX4_within cX4_within 3 (some .boolean)]
def wsX4_mixSkews_r2 : List Cond := [Cond.methodLink RX4 175 yX4_skewOf, Cond.instanceMethod yX4_skewOf, Cond.selects RX4 yX4_skewOf yX4_skewOf, Cond.code yX4_skewOf cX4_skewOf 4 (some .int), Cond.fieldLink RX4 22 "CloseClocksModel" "clockAt" "[I", Cond.methodLink RX4 181 yX4_global, Cond.instanceMethod yX4_global, Cond.selects RX4 yX4_global yX4_global, Cond.code yX4_global cX4_global 4 (some .int), Cond.methodLink RX4 184 yX4_levelNow, Cond.instanceMethod yX4_levelNow, Cond.selects RX4 yX4_levelNow yX4_levelNow, Cond.code yX4_levelNow cX4_levelNow 1 (some .int), Cond.methodLink RX4 148 yX4_firstOf, Cond.instanceMethod yX4_firstOf, Cond.selects RX4 yX4_firstOf yX4_firstOf, Cond.code yX4_firstOf cX4_firstOf 4 (some .int), Cond.fieldLink RX4 32 "CloseClocksModel" "step" "I", Cond.methodLink RX4 239 yX4_mix, Cond.instanceMethod yX4_mix, Cond.selects RX4 yX4_mix yX4_mix, Cond.code yX4_mix cX4_mix 3 none, Cond.constantLong RX4 233 (31), Cond.fieldLink RX4 235 "CloseClocksModel" "h" "J"]
def wsX4_mixSkews_r3 : List Cond := [Cond.methodLink RX4 190 yX4_spreadNow, Cond.instanceMethod yX4_spreadNow, Cond.selects RX4 yX4_spreadNow yX4_spreadNow, Cond.code yX4_spreadNow cX4_spreadNow 5 (some .int), Cond.methodLink RX4 178 yX4_hopsNow, Cond.instanceMethod yX4_hopsNow, Cond.selects RX4 yX4_hopsNow yX4_hopsNow, Cond.code yX4_hopsNow cX4_hopsNow 7 (some .int), Cond.methodLink RX4 209 yX4_worstNow, Cond.instanceMethod yX4_worstNow, Cond.selects RX4 yX4_worstNow yX4_worstNow, Cond.code yX4_worstNow cX4_worstNow 3 (some .int), Cond.fieldLink RX4 193 "CloseClocksModel" "worstMost" "I", Cond.fieldLink RX4 196 "CloseClocksModel" "worstBy" "I", Cond.methodLink RX4 205 yX4_layWorst, Cond.instanceMethod yX4_layWorst, Cond.selects RX4 yX4_layWorst yX4_layWorst, Cond.code yX4_layWorst cX4_layWorst 4 none, Cond.fieldLink RX4 19 "CloseClocksModel" "rateOf" "[I", Cond.methodLink RX4 199 yX4_setAside, Cond.instanceMethod yX4_setAside, Cond.selects RX4 yX4_setAside yX4_setAside, Cond.code yX4_setAside cX4_setAside 2 none, Cond.fieldLink RX4 45 "CloseClocksModel" "triedClocks" "[I"]
def wsX4_mixSkews_r4 : List Cond := [Cond.fieldLink RX4 48 "CloseClocksModel" "triedRates" "[I", Cond.fieldLink RX4 51 "CloseClocksModel" "triedFast" "[Z", Cond.fieldLink RX4 25 "CloseClocksModel" "isFast" "[Z", Cond.fieldLink RX4 54 "CloseClocksModel" "triedTicks" "[I", Cond.fieldLink RX4 29 "CloseClocksModel" "fastTicks" "[I", Cond.methodLink RX4 166 yX4_tick, Cond.instanceMethod yX4_tick, Cond.selects RX4 yX4_tick yX4_tick, Cond.code yX4_tick cX4_tick 3 none, Cond.fieldLink RX4 42 "CloseClocksModel" "turnOf" "[I", Cond.fieldLink RX4 36 "CloseClocksModel" "boost" "I", Cond.methodLink RX4 159 yX4_upOf, Cond.instanceMethod yX4_upOf, Cond.selects RX4 yX4_upOf yX4_upOf, Cond.code yX4_upOf cX4_upOf 3 (some .int), Cond.methodLink RX4 151 yX4_off, Cond.instanceMethod yX4_off, Cond.selects RX4 yX4_off yX4_off, Cond.code yX4_off cX4_off 6 (some .int), Cond.methodLink RX4 144 yX4_guess, Cond.instanceMethod yX4_guess, Cond.selects RX4 yX4_guess yX4_guess, Cond.code yX4_guess cX4_guess 4 (some .int), Cond.fieldLink RX4 16 "CloseClocksModel" "errorOf" "[I"]
def wsX4_mixSkews_r5 : List Cond := [Cond.methodLink RX4 155 yX4_trigger, Cond.instanceMethod yX4_trigger, Cond.selects RX4 yX4_trigger yX4_trigger, Cond.code yX4_trigger cX4_trigger 5 (some .int), Cond.methodLink RX4 163 yX4_downOf, Cond.instanceMethod yX4_downOf, Cond.selects RX4 yX4_downOf yX4_downOf, Cond.code yX4_downOf cX4_downOf 3 (some .int), Cond.methodLink RX4 202 yX4_setBack, Cond.instanceMethod yX4_setBack, Cond.selects RX4 yX4_setBack yX4_setBack, Cond.code yX4_setBack cX4_setBack 2 none]
def wsX4_mixSkews : List Cond := .code yX4_mixSkews cX4_mixSkews 2 none :: ((wsX4_mixSkews_r1 ++ (wsX4_mixSkews_r2 ++ (wsX4_mixSkews_r3 ++ (wsX4_mixSkews_r4 ++ wsX4_mixSkews_r5)))) ++ wsX40)
def wsX4_digest_r1 : List Cond := [Cond.constantLong RX4 243 (1663), Cond.fieldLink RX4 235 "CloseClocksModel" "h" "J", Cond.fieldLink RX4 112 "CloseClocksModel" "nodes" "I", Cond.fieldLink RX4 80 "CloseClocksModel" "pageLength" "I", Cond.fieldLink RX4 7 "CloseClocksModel" "page" "[I", Cond.methodLink RX4 215 yX4_nodeNow, Cond.instanceMethod yX4_nodeNow, Cond.selects RX4 yX4_nodeNow yX4_nodeNow, Cond.initialized RX4, Cond.code yX4_nodeNow cX4_nodeNow 3 (some .int), Cond.fieldLink RX4 22 "CloseClocksModel" "clockAt" "[I", Cond.fieldLink RX4 19 "CloseClocksModel" "rateOf" "[I", Cond.fieldLink RX4 25 "CloseClocksModel" "isFast" "[Z", Cond.fieldLink RX4 29 "CloseClocksModel" "fastTicks" "[I", Cond.methodLink RX4 212 yX4_besideOf, Cond.instanceMethod yX4_besideOf, Cond.selects RX4 yX4_besideOf yX4_besideOf, Cond.code yX4_besideOf cX4_besideOf 4 (some .int), Cond.methodLink RX4 140 yX4_areBeside, Cond.instanceMethod yX4_areBeside, Cond.selects RX4 yX4_areBeside yX4_areBeside, Cond.code yX4_areBeside cX4_areBeside 3 (some .boolean), Cond.fieldLink RX4 13 "CloseClocksModel" "delayOf" "[I", Cond.constant RX4 96 (-100000001)]
def wsX4_digest_r2 : List Cond := [Cond.methodLink RX4 135 yX4_isNode, Cond.instanceMethod yX4_isNode, Cond.selects RX4 yX4_isNode yX4_isNode, Cond.code yX4_isNode cX4_isNode 2 (some .boolean), Cond.methodLink RX4 75 yX4_within, Cond.static yX4_within, Cond.code yX4_within cX4_within 3 (some .boolean), Cond.methodLink RX4 151 yX4_off, Cond.instanceMethod yX4_off, Cond.selects RX4 yX4_off yX4_off, Cond.code yX4_off cX4_off 6 (some .int), Cond.methodLink RX4 144 yX4_guess, Cond.instanceMethod yX4_guess, Cond.selects RX4 yX4_guess yX4_guess, Cond.code yX4_guess cX4_guess 4 (some .int), Cond.fieldLink RX4 16 "CloseClocksModel" "errorOf" "[I", Cond.methodLink RX4 159 yX4_upOf, Cond.instanceMethod yX4_upOf, Cond.selects RX4 yX4_upOf yX4_upOf, Cond.code yX4_upOf cX4_upOf 3 (some .int), Cond.methodLink RX4 155 yX4_trigger, Cond.instanceMethod yX4_trigger, Cond.selects RX4 yX4_trigger yX4_trigger, Cond.code yX4_trigger cX4_trigger 5 (some .int)]
def wsX4_digest_r3 : List Cond := [Cond.fieldLink RX4 32 "CloseClocksModel" "step" "I", Cond.methodLink RX4 148 yX4_firstOf, Cond.instanceMethod yX4_firstOf, Cond.selects RX4 yX4_firstOf yX4_firstOf, Cond.code yX4_firstOf cX4_firstOf 4 (some .int), Cond.methodLink RX4 163 yX4_downOf, Cond.instanceMethod yX4_downOf, Cond.selects RX4 yX4_downOf yX4_downOf, Cond.code yX4_downOf cX4_downOf 3 (some .int), Cond.methodLink RX4 239 yX4_mix, Cond.instanceMethod yX4_mix, Cond.selects RX4 yX4_mix yX4_mix, Cond.code yX4_mix cX4_mix 3 none, Cond.constantLong RX4 233 (31), Cond.methodLink RX4 245 yX4_mixLinks, Cond.instanceMethod yX4_mixLinks, Cond.selects RX4 yX4_mixLinks yX4_mixLinks, Cond.code yX4_mixLinks cX4_mixLinks 4 none, Cond.methodLink RX4 218 yX4_linkNow, Cond.instanceMethod yX4_linkNow, Cond.selects RX4 yX4_linkNow yX4_linkNow, Cond.code yX4_linkNow cX4_linkNow 4 (some .int), Cond.methodLink RX4 175 yX4_skewOf, Cond.instanceMethod yX4_skewOf]
def wsX4_digest_r4 : List Cond := [Cond.selects RX4 yX4_skewOf yX4_skewOf, Cond.code yX4_skewOf cX4_skewOf 4 (some .int), Cond.methodLink RX4 248 yX4_mixSkews, Cond.instanceMethod yX4_mixSkews, Cond.selects RX4 yX4_mixSkews yX4_mixSkews, Cond.code yX4_mixSkews cX4_mixSkews 2 none, Cond.methodLink RX4 187 yX4_skewNow, Cond.instanceMethod yX4_skewNow, Cond.selects RX4 yX4_skewNow yX4_skewNow, Cond.code yX4_skewNow cX4_skewNow 2 (some .int), Cond.fieldLink RX4 125 "CloseClocksModel" "mostLocal" "I", Cond.methodLink RX4 172 yX4_local, Cond.instanceMethod yX4_local, Cond.selects RX4 yX4_local yX4_local, Cond.code yX4_local cX4_local 4 (some .int), Cond.methodLink RX4 181 yX4_global, Cond.instanceMethod yX4_global, Cond.selects RX4 yX4_global yX4_global, Cond.code yX4_global cX4_global 4 (some .int), Cond.methodLink RX4 184 yX4_levelNow, Cond.instanceMethod yX4_levelNow, Cond.selects RX4 yX4_levelNow yX4_levelNow, Cond.code yX4_levelNow cX4_levelNow 1 (some .int), Cond.methodLink RX4 190 yX4_spreadNow]
def wsX4_digest_r5 : List Cond := [Cond.instanceMethod yX4_spreadNow, Cond.selects RX4 yX4_spreadNow yX4_spreadNow, Cond.code yX4_spreadNow cX4_spreadNow 5 (some .int), Cond.methodLink RX4 178 yX4_hopsNow, Cond.instanceMethod yX4_hopsNow, Cond.selects RX4 yX4_hopsNow yX4_hopsNow, Cond.code yX4_hopsNow cX4_hopsNow 7 (some .int), Cond.methodLink RX4 209 yX4_worstNow, Cond.instanceMethod yX4_worstNow, Cond.selects RX4 yX4_worstNow yX4_worstNow, Cond.code yX4_worstNow cX4_worstNow 3 (some .int), Cond.fieldLink RX4 193 "CloseClocksModel" "worstMost" "I", Cond.fieldLink RX4 196 "CloseClocksModel" "worstBy" "I", Cond.methodLink RX4 205 yX4_layWorst, Cond.instanceMethod yX4_layWorst, Cond.selects RX4 yX4_layWorst yX4_layWorst, Cond.code yX4_layWorst cX4_layWorst 4 none, Cond.methodLink RX4 199 yX4_setAside, Cond.instanceMethod yX4_setAside, Cond.selects RX4 yX4_setAside yX4_setAside, Cond.code yX4_setAside cX4_setAside 2 none, Cond.fieldLink RX4 45 "CloseClocksModel" "triedClocks" "[I", Cond.fieldLink RX4 48 "CloseClocksModel" "triedRates" "[I", Cond.fieldLink RX4 51 "CloseClocksModel" "triedFast" "[Z"]
def wsX4_digest_r6 : List Cond := [Cond.fieldLink RX4 54 "CloseClocksModel" "triedTicks" "[I", Cond.methodLink RX4 166 yX4_tick, Cond.instanceMethod yX4_tick, Cond.selects RX4 yX4_tick yX4_tick, Cond.code yX4_tick cX4_tick 3 none, Cond.fieldLink RX4 42 "CloseClocksModel" "turnOf" "[I", Cond.fieldLink RX4 36 "CloseClocksModel" "boost" "I", Cond.methodLink RX4 202 yX4_setBack, Cond.instanceMethod yX4_setBack, Cond.selects RX4 yX4_setBack yX4_setBack, Cond.code yX4_setBack cX4_setBack 2 none, Cond.methodLink RX4 230 yX4_howMany, Cond.instanceMethod yX4_howMany, Cond.selects RX4 yX4_howMany yX4_howMany, Cond.code yX4_howMany cX4_howMany 2 (some .int), Cond.fieldLink RX4 115 "CloseClocksModel" "links" "I", Cond.fieldLink RX4 122 "CloseClocksModel" "ticks" "I", Cond.fieldLink RX4 132 "CloseClocksModel" "netsRead" "I", Cond.fieldLink RX4 169 "CloseClocksModel" "ticksEver" "I", Cond.constant RX4 79 (-100000003), Cond.methodLink RX4 227 yX4_fastMany, Cond.instanceMethod yX4_fastMany, Cond.selects RX4 yX4_fastMany yX4_fastMany, Cond.code yX4_fastMany cX4_fastMany 3 (some .int)]
def wsX4_digest : List Cond := .code yX4_digest cX4_digest 3 (some .long) :: ((wsX4_digest_r1 ++ (wsX4_digest_r2 ++ (wsX4_digest_r3 ++ (wsX4_digest_r4 ++ (wsX4_digest_r5 ++ wsX4_digest_r6))))) ++ wsX40)
def wsJ9_abs_0f7a4 : List Cond := .code yJ9_abs_0f7a4 cJ9_abs_0f7a4 1 (some .int) :: ([])
def wsJ9_max_7cf53 : List Cond := .code yJ9_max_7cf53 cJ9_max_7cf53 2 (some .int) :: ([])
def wsJ9_min_7cf53 : List Cond := .code yJ9_min_7cf53 cJ9_min_7cf53 2 (some .int) :: ([])
def wsL_law_r1 : List Cond := [Cond.classLink RL 7 RX3, Cond.instantiable RX3 10, Cond.initialized RX3, Cond.classLink RL 10 RX4, Cond.instantiable RX4 39, Cond.initialized RX4, Cond.methodLink RL 9 yX3_init, Cond.instanceMethod yX3_init, Cond.code yX3_init cX3_init 1 none, Cond.methodLink RX3 1 objectInit, Cond.instanceMethod objectInit, Cond.code objectInit ⟨#[0xb1]⟩ 1 none, Cond.classLink RX3 7 RX2, Cond.instantiable RX2 2, Cond.initialized RX2, Cond.fieldLink RX3 10 "CloseClocks" "page" "LCloseClocks$Page;", Cond.classLink RX3 16 RX1, Cond.instantiable RX1 5, Cond.initialized RX1, Cond.fieldLink RX3 19 "CloseClocks" "shape" "LCloseClocks$Net;", Cond.classLink RX3 23 RX0, Cond.instantiable RX0 11, Cond.initialized RX0, Cond.fieldLink RX3 28 "CloseClocks" "now" "LCloseClocks$Clocks;"]
def wsL_law_r2 : List Cond := [Cond.fieldLink RX3 32 "CloseClocks" "kept" "LCloseClocks$Clocks;", Cond.fieldLink RX3 35 "CloseClocks" "trial" "LCloseClocks$Clocks;", Cond.fieldLink RX3 38 "CloseClocks" "imageKept" "Z", Cond.fieldLink RX3 42 "CloseClocks" "step" "I", Cond.fieldLink RX3 46 "CloseClocks" "boost" "I", Cond.fieldLink RX3 49 "CloseClocks" "netsRead" "I", Cond.fieldLink RX3 52 "CloseClocks" "ticksEver" "I", Cond.instanceMethod yX2_init, Cond.code yX2_init cX2_init 1 none, Cond.methodLink RX2 3 objectInit, Cond.arrayClass .int, Cond.fieldLink RX2 9 "CloseClocks$Page" "letters" "[I", Cond.fieldLink RX2 15 "CloseClocks$Page" "length" "I", Cond.instanceMethod yX1_init, Cond.code yX1_init cX1_init 1 none, Cond.methodLink RX1 3 objectInit, Cond.fieldLink RX1 9 "CloseClocks$Net" "degrees" "[I", Cond.fieldLink RX1 15 "CloseClocks$Net" "neighbours" "[I", Cond.fieldLink RX1 18 "CloseClocks$Net" "ways" "[I", Cond.fieldLink RX1 21 "CloseClocks$Net" "nodes" "I", Cond.fieldLink RX1 25 "CloseClocks$Net" "links" "I", Cond.methodLink RX3 25 yX0_init, Cond.instanceMethod yX0_init, Cond.code yX0_init cX0_init 2 none]
def wsL_law_r3 : List Cond := [Cond.methodLink RX0 3 objectInit, Cond.fieldLink RX0 9 "CloseClocks$Clocks" "past" "[I", Cond.fieldLink RX0 15 "CloseClocks$Clocks" "rates" "[I", Cond.fieldLink RX0 18 "CloseClocks$Clocks" "fast" "[I", Cond.fieldLink RX0 21 "CloseClocks$Clocks" "fastTicks" "[I", Cond.fieldLink RX0 24 "CloseClocks$Clocks" "delays" "[I", Cond.fieldLink RX0 27 "CloseClocks$Clocks" "errors" "[I", Cond.fieldLink RX0 30 "CloseClocks$Clocks" "ticks" "I", Cond.fieldLink RX0 34 "CloseClocks$Clocks" "greatestLocal" "I", Cond.constant RX0 37 (-100000001), Cond.fieldLink RX0 38 "CloseClocks$Clocks" "ahead" "I", Cond.fieldLink RX0 41 "CloseClocks$Clocks" "behind" "I", Cond.fieldLink RX0 44 "CloseClocks$Clocks" "shape" "LCloseClocks$Net;", Cond.methodLink RL 12 yX4_init, Cond.instanceMethod yX4_init, Cond.code yX4_init cX4_init 1 none, Cond.methodLink RX4 1 objectInit, Cond.fieldLink RX4 7 "CloseClocksModel" "page" "[I", Cond.fieldLink RX4 13 "CloseClocksModel" "delayOf" "[I", Cond.fieldLink RX4 16 "CloseClocksModel" "errorOf" "[I", Cond.fieldLink RX4 19 "CloseClocksModel" "rateOf" "[I", Cond.fieldLink RX4 22 "CloseClocksModel" "clockAt" "[I", Cond.arrayClass .boolean, Cond.fieldLink RX4 25 "CloseClocksModel" "isFast" "[Z"]
def wsL_law_r4 : List Cond := [Cond.fieldLink RX4 29 "CloseClocksModel" "fastTicks" "[I", Cond.fieldLink RX4 32 "CloseClocksModel" "step" "I", Cond.fieldLink RX4 36 "CloseClocksModel" "boost" "I", Cond.fieldLink RX4 39 "CloseClocksModel" "newDelays" "[I", Cond.fieldLink RX4 42 "CloseClocksModel" "turnOf" "[I", Cond.fieldLink RX4 45 "CloseClocksModel" "triedClocks" "[I", Cond.fieldLink RX4 48 "CloseClocksModel" "triedRates" "[I", Cond.fieldLink RX4 51 "CloseClocksModel" "triedFast" "[Z", Cond.fieldLink RX4 54 "CloseClocksModel" "triedTicks" "[I", Cond.fieldLink RX4 57 "CloseClocksModel" "keptClocks" "[I", Cond.fieldLink RX4 60 "CloseClocksModel" "keptRates" "[I", Cond.fieldLink RX4 63 "CloseClocksModel" "keptErrors" "[I", Cond.fieldLink RX4 66 "CloseClocksModel" "keptDelays" "[I", Cond.fieldLink RX4 69 "CloseClocksModel" "keptFast" "[Z", Cond.fieldLink RX4 72 "CloseClocksModel" "keptFastTicks" "[I", Cond.methodLink RL 13 yX3_letter, Cond.instanceMethod yX3_letter, Cond.selects RX3 yX3_letter yX3_letter, Cond.code yX3_letter cX3_letter 2 (some .int), Cond.constant RX3 55 (-100000003), Cond.constant RX3 60 (-100000005), Cond.methodLink RX3 56 yX2_isFull, Cond.instanceMethod yX2_isFull, Cond.selects RX2 yX2_isFull yX2_isFull]
def wsL_law_r5 : List Cond := [Cond.code yX2_isFull cX2_isFull 1 (some .boolean), Cond.methodLink RX3 61 yX2_append, Cond.instanceMethod yX2_append, Cond.selects RX2 yX2_append yX2_append, Cond.code yX2_append cX2_append 2 (some .int), Cond.methodLink RL 17 yX4_letter, Cond.instanceMethod yX4_letter, Cond.selects RX4 yX4_letter yX4_letter, Cond.code yX4_letter cX4_letter 2 (some .int), Cond.constant RX4 79 (-100000003), Cond.fieldLink RX4 80 "CloseClocksModel" "pageLength" "I", Cond.constant RX4 83 (-100000005), Cond.methodLink RX4 75 yX4_within, Cond.static yX4_within, Cond.code yX4_within cX4_within 3 (some .boolean), Cond.methodLink RL 18 yX3_blank, Cond.instanceMethod yX3_blank, Cond.selects RX3 yX3_blank yX3_blank, Cond.code yX3_blank cX3_blank 1 (some .int), Cond.methodLink RX3 65 yX2_empty, Cond.instanceMethod yX2_empty, Cond.selects RX2 yX2_empty yX2_empty, Cond.code yX2_empty cX2_empty 2 (some .int), Cond.methodLink RL 22 yX4_blank]
def wsL_law_r6 : List Cond := [Cond.instanceMethod yX4_blank, Cond.selects RX4 yX4_blank yX4_blank, Cond.code yX4_blank cX4_blank 2 (some .int), Cond.methodLink RL 23 yX3_fault, Cond.instanceMethod yX3_fault, Cond.selects RX3 yX3_fault yX3_fault, Cond.code yX3_fault cX3_fault 1 (some .int), Cond.methodLink RX3 69 yX2_firstFault, Cond.instanceMethod yX2_firstFault, Cond.selects RX2 yX2_firstFault yX2_firstFault, Cond.code yX2_firstFault cX2_firstFault 2 (some .int), Cond.methodLink RX2 24 yX2_fitsAt, Cond.instanceMethod yX2_fitsAt, Cond.selects RX2 yX2_fitsAt yX2_fitsAt, Cond.code yX2_fitsAt cX2_fitsAt 3 (some .boolean), Cond.methodLink RX2 32 yX2_digitAt, Cond.instanceMethod yX2_digitAt, Cond.selects RX2 yX2_digitAt yX2_digitAt, Cond.code yX2_digitAt cX2_digitAt 2 (some .int), Cond.methodLink RX2 20 yX2_letterAt, Cond.instanceMethod yX2_letterAt, Cond.selects RX2 yX2_letterAt yX2_letterAt, Cond.code yX2_letterAt cX2_letterAt 2 (some .int), Cond.constant RX2 19 (-100000001)]
def wsL_law_r7 : List Cond := [Cond.methodLink RX2 35 yX2_isNode, Cond.instanceMethod yX2_isNode, Cond.selects RX2 yX2_isNode yX2_isNode, Cond.code yX2_isNode cX2_isNode 2 (some .boolean), Cond.methodLink RX2 38 yX2_isNewLink, Cond.instanceMethod yX2_isNewLink, Cond.selects RX2 yX2_isNewLink yX2_isNewLink, Cond.code yX2_isNewLink cX2_isNewLink 7 (some .boolean), Cond.methodLink RX2 41 yX2_placeOfLink, Cond.static yX2_placeOfLink, Cond.code yX2_placeOfLink cX2_placeOfLink 1 (some .int), Cond.methodLink RL 26 yX4_fault, Cond.instanceMethod yX4_fault, Cond.selects RX4 yX4_fault yX4_fault, Cond.code yX4_fault cX4_fault 1 (some .int), Cond.methodLink RX4 107 yX4_goAlong, Cond.instanceMethod yX4_goAlong, Cond.selects RX4 yX4_goAlong yX4_goAlong, Cond.code yX4_goAlong cX4_goAlong 2 (some .int), Cond.fieldLink RX4 90 "CloseClocksModel" "newNodes" "I", Cond.fieldLink RX4 97 "CloseClocksModel" "newLinks" "I", Cond.fieldLink RX4 84 "CloseClocksModel" "due" "I", Cond.constant RX4 96 (-100000001), Cond.methodLink RX4 104 yX4_takes]
def wsL_law_r8 : List Cond := [Cond.instanceMethod yX4_takes, Cond.selects RX4 yX4_takes yX4_takes, Cond.code yX4_takes cX4_takes 2 (some .boolean), Cond.methodLink RX4 100 yX4_takesDigit, Cond.instanceMethod yX4_takesDigit, Cond.selects RX4 yX4_takesDigit yX4_takesDigit, Cond.code yX4_takesDigit cX4_takesDigit 3 (some .boolean), Cond.fieldLink RX4 87 "CloseClocksModel" "newOne" "I", Cond.fieldLink RX4 93 "CloseClocksModel" "newOther" "I", Cond.methodLink RL 27 yX3_net, Cond.instanceMethod yX3_net, Cond.selects RX3 yX3_net yX3_net, Cond.code yX3_net cX3_net 1 (some .int), Cond.constant RX3 75 (-100000004), Cond.methodLink RX3 72 yX2_isNet, Cond.instanceMethod yX2_isNet, Cond.selects RX2 yX2_isNet yX2_isNet, Cond.code yX2_isNet cX2_isNet 1 (some .boolean), Cond.methodLink RX2 28 yX2_firstFault, Cond.methodLink RX3 76 yX1_readFrom, Cond.instanceMethod yX1_readFrom, Cond.selects RX1 yX1_readFrom yX1_readFrom, Cond.code yX1_readFrom cX1_readFrom 4 none, Cond.methodLink RX1 37 yX2_digitAt]
def wsL_law_r9 : List Cond := [Cond.methodLink RX1 43 yX2_howManyLinks, Cond.instanceMethod yX2_howManyLinks, Cond.selects RX2 yX2_howManyLinks yX2_howManyLinks, Cond.code yX2_howManyLinks cX2_howManyLinks 1 (some .int), Cond.static yX3_cell, Cond.code yX3_cell cX3_cell 2 (some .int), Cond.methodLink RX1 47 yX2_placeOfLink, Cond.methodLink RX1 50 yX1_join, Cond.instanceMethod yX1_join, Cond.selects RX1 yX1_join yX1_join, Cond.code yX1_join cX1_join 3 none, Cond.methodLink RX1 28 yX1_hasNode, Cond.instanceMethod yX1_hasNode, Cond.selects RX1 yX1_hasNode yX1_hasNode, Cond.code yX1_hasNode cX1_hasNode 2 (some .boolean), Cond.methodLink RX1 57 yX1_addNeighbour, Cond.instanceMethod yX1_addNeighbour, Cond.selects RX1 yX1_addNeighbour yX1_addNeighbour, Cond.code yX1_addNeighbour cX1_addNeighbour 3 none, Cond.methodLink RX1 54 yX1_shortenWays, Cond.instanceMethod yX1_shortenWays, Cond.selects RX1 yX1_shortenWays yX1_shortenWays, Cond.code yX1_shortenWays cX1_shortenWays 5 none, Cond.methodLink RX1 60 Lib.Math.min.name]
def wsL_law_r10 : List Cond := [Cond.static Lib.Math.min.name, Cond.initialized "java/lang/Math", Cond.code Lib.Math.min.name Lib.Math.min.code 2 (some .int), Cond.methodLink RX3 80 yX0_startFrom, Cond.instanceMethod yX0_startFrom, Cond.selects RX0 yX0_startFrom yX0_startFrom, Cond.code yX0_startFrom cX0_startFrom 4 none, Cond.methodLink RX0 48 yJ7_fill_53178, Cond.static yJ7_fill_53178, Cond.initialized RJ7, Cond.code yJ7_fill_53178 cJ7_fill_53178 4 none, Cond.methodLink RX0 59 yX2_placeOfLink, Cond.methodLink RX0 65 yX2_digitAt, Cond.methodLink RX0 68 yX0_tellDelay, Cond.instanceMethod yX0_tellDelay, Cond.selects RX0 yX0_tellDelay yX0_tellDelay, Cond.code yX0_tellDelay cX0_tellDelay 4 none, Cond.methodLink RX0 85 yX1_hasLink, Cond.instanceMethod yX1_hasLink, Cond.selects RX1 yX1_hasLink yX1_hasLink, Cond.code yX1_hasLink cX1_hasLink 3 (some .boolean), Cond.methodLink RL 30 yX4_net, Cond.instanceMethod yX4_net, Cond.selects RX4 yX4_net yX4_net]
def wsL_law_r11 : List Cond := [Cond.code yX4_net cX4_net 2 (some .int), Cond.constant RX4 111 (-100000004), Cond.fieldLink RX4 112 "CloseClocksModel" "nodes" "I", Cond.fieldLink RX4 115 "CloseClocksModel" "links" "I", Cond.fieldLink RX4 122 "CloseClocksModel" "ticks" "I", Cond.fieldLink RX4 125 "CloseClocksModel" "mostLocal" "I", Cond.fieldLink RX4 128 "CloseClocksModel" "isKept" "Z", Cond.fieldLink RX4 132 "CloseClocksModel" "netsRead" "I", Cond.methodLink RX4 118 yX4_setClock, Cond.instanceMethod yX4_setClock, Cond.selects RX4 yX4_setClock yX4_setClock, Cond.code yX4_setClock cX4_setClock 4 none, Cond.methodLink RL 31 yX3_set, Cond.instanceMethod yX3_set, Cond.selects RX3 yX3_set yX3_set, Cond.code yX3_set cX3_set 4 (some .int), Cond.methodLink RL 35 yX4_set, Cond.instanceMethod yX4_set, Cond.selects RX4 yX4_set yX4_set, Cond.code yX4_set cX4_set 4 (some .int), Cond.methodLink RL 36 yX3_rate, Cond.instanceMethod yX3_rate, Cond.selects RX3 yX3_rate yX3_rate, Cond.code yX3_rate cX3_rate 4 (some .int)]
def wsL_law_r12 : List Cond := [Cond.constant RX3 90 (-100000002), Cond.methodLink RX3 86 yX1_hasNode, Cond.methodLink RL 39 yX4_rate, Cond.instanceMethod yX4_rate, Cond.selects RX4 yX4_rate yX4_rate, Cond.code yX4_rate cX4_rate 4 (some .int), Cond.constant RX4 138 (-100000002), Cond.methodLink RX4 135 yX4_isNode, Cond.instanceMethod yX4_isNode, Cond.selects RX4 yX4_isNode yX4_isNode, Cond.code yX4_isNode cX4_isNode 2 (some .boolean), Cond.methodLink RL 40 yX3_put, Cond.instanceMethod yX3_put, Cond.selects RX3 yX3_put yX3_put, Cond.code yX3_put cX3_put 4 (some .int), Cond.constant RX3 95 (1000000), Cond.methodLink RX3 96 yX0_clockOf, Cond.instanceMethod yX0_clockOf, Cond.selects RX0 yX0_clockOf yX0_clockOf, Cond.code yX0_clockOf cX0_clockOf 2 (some .int), Cond.methodLink RX3 99 yX0_tellClock, Cond.instanceMethod yX0_tellClock, Cond.selects RX0 yX0_tellClock yX0_tellClock, Cond.code yX0_tellClock cX0_tellClock 4 none]
def wsL_law_r13 : List Cond := [Cond.methodLink RL 43 yX4_put, Cond.instanceMethod yX4_put, Cond.selects RX4 yX4_put yX4_put, Cond.code yX4_put cX4_put 4 (some .int), Cond.constant RX4 139 (1000000), Cond.methodLink RL 44 yX3_wrong, Cond.instanceMethod yX3_wrong, Cond.selects RX3 yX3_wrong yX3_wrong, Cond.code yX3_wrong cX3_wrong 5 (some .int), Cond.methodLink RX3 103 yX1_hasLink, Cond.methodLink RX3 110 yX3_cell, Cond.methodLink RL 48 yX4_wrong, Cond.instanceMethod yX4_wrong, Cond.selects RX4 yX4_wrong yX4_wrong, Cond.code yX4_wrong cX4_wrong 5 (some .int), Cond.methodLink RX4 140 yX4_areBeside, Cond.instanceMethod yX4_areBeside, Cond.selects RX4 yX4_areBeside yX4_areBeside, Cond.code yX4_areBeside cX4_areBeside 3 (some .boolean), Cond.methodLink RL 49 yX3_delay, Cond.instanceMethod yX3_delay, Cond.selects RX3 yX3_delay yX3_delay, Cond.code yX3_delay cX3_delay 5 (some .int), Cond.methodLink RX3 117 yX0_tellDelay]
def wsL_law_r14 : List Cond := [Cond.methodLink RL 52 yX4_delay, Cond.instanceMethod yX4_delay, Cond.selects RX4 yX4_delay yX4_delay, Cond.code yX4_delay cX4_delay 5 (some .int), Cond.methodLink RL 53 yX3_go, Cond.instanceMethod yX3_go, Cond.selects RX3 yX3_go yX3_go, Cond.code yX3_go cX3_go 3 (some .int), Cond.methodLink RX3 121 yX1_isRead, Cond.instanceMethod yX1_isRead, Cond.selects RX1 yX1_isRead yX1_isRead, Cond.code yX1_isRead cX1_isRead 1 (some .boolean), Cond.methodLink RX3 127 yX0_tick, Cond.instanceMethod yX0_tick, Cond.selects RX0 yX0_tick yX0_tick, Cond.code yX0_tick cX0_tick 4 none, Cond.methodLink RX0 115 Lib.Math.max.name, Cond.static Lib.Math.max.name, Cond.code Lib.Math.max.name Lib.Math.max.code 2 (some .int), Cond.methodLink RX0 126 yX0_move, Cond.instanceMethod yX0_move, Cond.selects RX0 yX0_move yX0_move, Cond.code yX0_move cX0_move 4 none, Cond.methodLink RX0 76 arraycopyName]
def wsL_law_r15 : List Cond := [Cond.native arraycopyName, Cond.static arraycopyName, Cond.initialized "java/lang/System", Cond.methodLink RX0 93 yX0_compareGuesses, Cond.instanceMethod yX0_compareGuesses, Cond.selects RX0 yX0_compareGuesses yX0_compareGuesses, Cond.code yX0_compareGuesses cX0_compareGuesses 8 none, Cond.methodLink RX0 103 yX0_clockOf, Cond.methodLink RX0 109 yX1_neighbourOf, Cond.instanceMethod yX1_neighbourOf, Cond.selects RX1 yX1_neighbourOf yX1_neighbourOf, Cond.code yX1_neighbourOf cX1_neighbourOf 3 (some .int), Cond.methodLink RX0 112 yX0_guess, Cond.instanceMethod yX0_guess, Cond.selects RX0 yX0_guess yX0_guess, Cond.code yX0_guess cX0_guess 5 (some .int), Cond.methodLink RX0 97 yX0_upLevel, Cond.instanceMethod yX0_upLevel, Cond.selects RX0 yX0_upLevel yX0_upLevel, Cond.code yX0_upLevel cX0_upLevel 3 (some .int), Cond.static yX3_levelReaching, Cond.code yX3_levelReaching cX3_levelReaching 2 (some .int), Cond.methodLink RX3 252 yX3_dividedUp, Cond.static yX3_dividedUp]
def wsL_law_r16 : List Cond := [Cond.code yX3_dividedUp cX3_dividedUp 2 (some .int), Cond.methodLink RX0 100 yX0_downLevel, Cond.instanceMethod yX0_downLevel, Cond.selects RX0 yX0_downLevel yX0_downLevel, Cond.code yX0_downLevel cX0_downLevel 3 (some .int), Cond.methodLink RX0 130 yX0_localSkew, Cond.instanceMethod yX0_localSkew, Cond.selects RX0 yX0_localSkew yX0_localSkew, Cond.code yX0_localSkew cX0_localSkew 1 (some .int), Cond.methodLink RX0 137 yX0_skewByHops, Cond.instanceMethod yX0_skewByHops, Cond.selects RX0 yX0_skewByHops yX0_skewByHops, Cond.code yX0_skewByHops cX0_skewByHops 5 (some .int), Cond.methodLink RX0 143 yX1_hopsOf, Cond.instanceMethod yX1_hopsOf, Cond.selects RX1 yX1_hopsOf yX1_hopsOf, Cond.code yX1_hopsOf cX1_hopsOf 4 (some .int), Cond.constant RX1 36 (-100000001), Cond.methodLink RX0 140 yX0_skewOf, Cond.instanceMethod yX0_skewOf, Cond.selects RX0 yX0_skewOf yX0_skewOf, Cond.code yX0_skewOf cX0_skewOf 3 (some .int), Cond.methodLink RX0 134 Lib.Math.abs.name, Cond.static Lib.Math.abs.name]
def wsL_law_r17 : List Cond := [Cond.code Lib.Math.abs.name Lib.Math.abs.code 1 (some .int), Cond.methodLink RX3 130 yX0_localSkew, Cond.methodLink RL 56 yX4_go, Cond.instanceMethod yX4_go, Cond.selects RX4 yX4_go yX4_go, Cond.code yX4_go cX4_go 3 (some .int), Cond.fieldLink RX4 169 "CloseClocksModel" "ticksEver" "I", Cond.methodLink RX4 166 yX4_tick, Cond.instanceMethod yX4_tick, Cond.selects RX4 yX4_tick yX4_tick, Cond.code yX4_tick cX4_tick 3 none, Cond.methodLink RX4 159 yX4_upOf, Cond.instanceMethod yX4_upOf, Cond.selects RX4 yX4_upOf yX4_upOf, Cond.code yX4_upOf cX4_upOf 3 (some .int), Cond.methodLink RX4 151 yX4_off, Cond.instanceMethod yX4_off, Cond.selects RX4 yX4_off yX4_off, Cond.code yX4_off cX4_off 6 (some .int), Cond.methodLink RX4 144 yX4_guess, Cond.instanceMethod yX4_guess, Cond.selects RX4 yX4_guess yX4_guess, Cond.code yX4_guess cX4_guess 4 (some .int), Cond.methodLink RX4 155 yX4_trigger]
def wsL_law_r18 : List Cond := [Cond.instanceMethod yX4_trigger, Cond.selects RX4 yX4_trigger yX4_trigger, Cond.code yX4_trigger cX4_trigger 5 (some .int), Cond.methodLink RX4 148 yX4_firstOf, Cond.instanceMethod yX4_firstOf, Cond.selects RX4 yX4_firstOf yX4_firstOf, Cond.code yX4_firstOf cX4_firstOf 4 (some .int), Cond.methodLink RX4 163 yX4_downOf, Cond.instanceMethod yX4_downOf, Cond.selects RX4 yX4_downOf yX4_downOf, Cond.code yX4_downOf cX4_downOf 3 (some .int), Cond.methodLink RX4 172 yX4_local, Cond.instanceMethod yX4_local, Cond.selects RX4 yX4_local yX4_local, Cond.code yX4_local cX4_local 4 (some .int), Cond.methodLink RX4 175 yX4_skewOf, Cond.instanceMethod yX4_skewOf, Cond.selects RX4 yX4_skewOf yX4_skewOf, Cond.code yX4_skewOf cX4_skewOf 4 (some .int), Cond.methodLink RL 57 yX3_node, Cond.instanceMethod yX3_node, Cond.selects RX3 yX3_node yX3_node, Cond.code yX3_node cX3_node 3 (some .int), Cond.methodLink RX3 139 yX0_aheadOf]
def wsL_law_r19 : List Cond := [Cond.instanceMethod yX0_aheadOf, Cond.selects RX0 yX0_aheadOf yX0_aheadOf, Cond.code yX0_aheadOf cX0_aheadOf 2 (some .int), Cond.methodLink RX3 142 yX0_behindOf, Cond.instanceMethod yX0_behindOf, Cond.selects RX0 yX0_behindOf yX0_behindOf, Cond.code yX0_behindOf cX0_behindOf 2 (some .int), Cond.methodLink RX3 145 yX0_leastUp, Cond.instanceMethod yX0_leastUp, Cond.selects RX0 yX0_leastUp yX0_leastUp, Cond.code yX0_leastUp cX0_leastUp 3 (some .int), Cond.methodLink RX3 148 yX0_leastDown, Cond.instanceMethod yX0_leastDown, Cond.selects RX0 yX0_leastDown yX0_leastDown, Cond.code yX0_leastDown cX0_leastDown 3 (some .int), Cond.methodLink RL 60 yX4_node, Cond.instanceMethod yX4_node, Cond.selects RX4 yX4_node yX4_node, Cond.code yX4_node cX4_node 3 (some .int), Cond.methodLink RX4 215 yX4_nodeNow, Cond.instanceMethod yX4_nodeNow, Cond.selects RX4 yX4_nodeNow yX4_nodeNow, Cond.code yX4_nodeNow cX4_nodeNow 3 (some .int), Cond.methodLink RX4 212 yX4_besideOf]
def wsL_law_r20 : List Cond := [Cond.instanceMethod yX4_besideOf, Cond.selects RX4 yX4_besideOf yX4_besideOf, Cond.code yX4_besideOf cX4_besideOf 4 (some .int), Cond.methodLink RL 61 yX3_link, Cond.instanceMethod yX3_link, Cond.selects RX3 yX3_link yX3_link, Cond.code yX3_link cX3_link 4 (some .int), Cond.methodLink RX3 154 yX0_guess, Cond.methodLink RX3 157 yX0_skewOf, Cond.methodLink RL 64 yX4_link, Cond.instanceMethod yX4_link, Cond.selects RX4 yX4_link yX4_link, Cond.code yX4_link cX4_link 4 (some .int), Cond.methodLink RX4 218 yX4_linkNow, Cond.instanceMethod yX4_linkNow, Cond.selects RX4 yX4_linkNow yX4_linkNow, Cond.code yX4_linkNow cX4_linkNow 4 (some .int), Cond.methodLink RL 65 yX3_hops, Cond.instanceMethod yX3_hops, Cond.selects RX3 yX3_hops yX3_hops, Cond.code yX3_hops cX3_hops 3 (some .int), Cond.methodLink RX3 160 yX1_hopsOf, Cond.methodLink RL 68 yX4_hops, Cond.instanceMethod yX4_hops]
def wsL_law_r21 : List Cond := [Cond.selects RX4 yX4_hops yX4_hops, Cond.code yX4_hops cX4_hops 3 (some .int), Cond.methodLink RX4 178 yX4_hopsNow, Cond.instanceMethod yX4_hopsNow, Cond.selects RX4 yX4_hopsNow yX4_hopsNow, Cond.code yX4_hopsNow cX4_hopsNow 7 (some .int), Cond.methodLink RL 69 yX3_skew, Cond.instanceMethod yX3_skew, Cond.selects RX3 yX3_skew yX3_skew, Cond.code yX3_skew cX3_skew 2 (some .int), Cond.methodLink RX3 163 yX0_globalSkew, Cond.instanceMethod yX0_globalSkew, Cond.selects RX0 yX0_globalSkew yX0_globalSkew, Cond.code yX0_globalSkew cX0_globalSkew 4 (some .int), Cond.methodLink RX3 166 yX3_levelReaching, Cond.methodLink RL 72 yX4_skew, Cond.instanceMethod yX4_skew, Cond.selects RX4 yX4_skew yX4_skew, Cond.code yX4_skew cX4_skew 2 (some .int), Cond.methodLink RX4 187 yX4_skewNow, Cond.instanceMethod yX4_skewNow, Cond.selects RX4 yX4_skewNow yX4_skewNow, Cond.code yX4_skewNow cX4_skewNow 2 (some .int), Cond.methodLink RX4 181 yX4_global]
def wsL_law_r22 : List Cond := [Cond.instanceMethod yX4_global, Cond.selects RX4 yX4_global yX4_global, Cond.code yX4_global cX4_global 4 (some .int), Cond.methodLink RX4 184 yX4_levelNow, Cond.instanceMethod yX4_levelNow, Cond.selects RX4 yX4_levelNow yX4_levelNow, Cond.code yX4_levelNow cX4_levelNow 1 (some .int), Cond.methodLink RL 73 yX3_spread, Cond.instanceMethod yX3_spread, Cond.selects RX3 yX3_spread yX3_spread, Cond.code yX3_spread cX3_spread 2 (some .int), Cond.methodLink RX3 172 yX0_skewByHops, Cond.methodLink RL 76 yX4_spread, Cond.instanceMethod yX4_spread, Cond.selects RX4 yX4_spread yX4_spread, Cond.code yX4_spread cX4_spread 2 (some .int), Cond.methodLink RX4 190 yX4_spreadNow, Cond.instanceMethod yX4_spreadNow, Cond.selects RX4 yX4_spreadNow yX4_spreadNow, Cond.code yX4_spreadNow cX4_spreadNow 5 (some .int), Cond.methodLink RL 77 yX3_worst, Cond.instanceMethod yX3_worst, Cond.selects RX3 yX3_worst yX3_worst, Cond.code yX3_worst cX3_worst 5 (some .int)]
def wsL_law_r23 : List Cond := [Cond.methodLink RX3 175 yX3_searchWorst, Cond.instanceMethod yX3_searchWorst, Cond.selects RX3 yX3_searchWorst yX3_searchWorst, Cond.code yX3_searchWorst cX3_searchWorst 6 (some .long), Cond.methodLink RX3 186 yX0_copyAll, Cond.instanceMethod yX0_copyAll, Cond.selects RX0 yX0_copyAll yX0_copyAll, Cond.code yX0_copyAll cX0_copyAll 2 none, Cond.methodLink RX0 72 yX0_copyMotion, Cond.instanceMethod yX0_copyMotion, Cond.selects RX0 yX0_copyMotion yX0_copyMotion, Cond.code yX0_copyMotion cX0_copyMotion 2 none, Cond.methodLink RX3 240 yX0_copyMotion, Cond.methodLink RX3 243 yX0_tellRates, Cond.instanceMethod yX0_tellRates, Cond.selects RX0 yX0_tellRates yX0_tellRates, Cond.code yX0_tellRates cX0_tellRates 3 none, Cond.methodLink RX3 247 yX0_move, Cond.methodLink RX3 179 yX3_skewOfWorst, Cond.static yX3_skewOfWorst, Cond.code yX3_skewOfWorst cX3_skewOfWorst 2 (some .int), Cond.methodLink RX3 183 yX3_nodesOfWorst, Cond.static yX3_nodesOfWorst, Cond.code yX3_nodesOfWorst cX3_nodesOfWorst 2 (some .int)]
def wsL_law_r24 : List Cond := [Cond.constantLong RX3 250 (63), Cond.methodLink RL 80 yX4_worst, Cond.instanceMethod yX4_worst, Cond.selects RX4 yX4_worst yX4_worst, Cond.code yX4_worst cX4_worst 3 (some .int), Cond.methodLink RX4 209 yX4_worstNow, Cond.instanceMethod yX4_worstNow, Cond.selects RX4 yX4_worstNow yX4_worstNow, Cond.code yX4_worstNow cX4_worstNow 3 (some .int), Cond.fieldLink RX4 193 "CloseClocksModel" "worstMost" "I", Cond.fieldLink RX4 196 "CloseClocksModel" "worstBy" "I", Cond.methodLink RX4 205 yX4_layWorst, Cond.instanceMethod yX4_layWorst, Cond.selects RX4 yX4_layWorst yX4_layWorst, Cond.code yX4_layWorst cX4_layWorst 4 none, Cond.methodLink RX4 199 yX4_setAside, Cond.instanceMethod yX4_setAside, Cond.selects RX4 yX4_setAside yX4_setAside, Cond.code yX4_setAside cX4_setAside 2 none, Cond.methodLink RX4 202 yX4_setBack, Cond.instanceMethod yX4_setBack, Cond.selects RX4 yX4_setBack yX4_setBack, Cond.code yX4_setBack cX4_setBack 2 none, Cond.methodLink RL 81 yX3_image]
def wsL_law_r25 : List Cond := [Cond.instanceMethod yX3_image, Cond.selects RX3 yX3_image yX3_image, Cond.code yX3_image cX3_image 1 (some .int), Cond.methodLink RL 84 yX4_image, Cond.instanceMethod yX4_image, Cond.selects RX4 yX4_image yX4_image, Cond.code yX4_image cX4_image 2 (some .int), Cond.fieldLink RX4 221 "CloseClocksModel" "keptTicks" "I", Cond.fieldLink RX4 224 "CloseClocksModel" "keptLocal" "I", Cond.methodLink RL 85 yX3_restore, Cond.instanceMethod yX3_restore, Cond.selects RX3 yX3_restore yX3_restore, Cond.code yX3_restore cX3_restore 1 (some .int), Cond.methodLink RL 88 yX4_restore, Cond.instanceMethod yX4_restore, Cond.selects RX4 yX4_restore yX4_restore, Cond.code yX4_restore cX4_restore 2 (some .int), Cond.methodLink RL 89 yX3_count, Cond.instanceMethod yX3_count, Cond.selects RX3 yX3_count yX3_count, Cond.code yX3_count cX3_count 2 (some .int), Cond.methodLink RX3 196 yX0_howManyFast, Cond.instanceMethod yX0_howManyFast, Cond.selects RX0 yX0_howManyFast yX0_howManyFast]
def wsL_law_r26 : List Cond := [Cond.code yX0_howManyFast cX0_howManyFast 3 (some .int), Cond.methodLink RL 92 yX4_count, Cond.instanceMethod yX4_count, Cond.selects RX4 yX4_count yX4_count, Cond.code yX4_count cX4_count 2 (some .int), Cond.methodLink RX4 230 yX4_howMany, Cond.instanceMethod yX4_howMany, Cond.selects RX4 yX4_howMany yX4_howMany, Cond.code yX4_howMany cX4_howMany 2 (some .int), Cond.methodLink RX4 227 yX4_fastMany, Cond.instanceMethod yX4_fastMany, Cond.selects RX4 yX4_fastMany yX4_fastMany, Cond.code yX4_fastMany cX4_fastMany 3 (some .int), Cond.methodLink RL 93 yX3_digest, Cond.instanceMethod yX3_digest, Cond.selects RX3 yX3_digest yX3_digest, Cond.code yX3_digest cX3_digest 4 (some .long), Cond.constantLong RX3 199 (1663), Cond.methodLink RX3 201 yX3_mixNodes, Cond.instanceMethod yX3_mixNodes, Cond.selects RX3 yX3_mixNodes yX3_mixNodes, Cond.code yX3_mixNodes cX3_mixNodes 7 (some .long), Cond.methodLink RX3 221 yX3_node, Cond.methodLink RX3 214 yX3_mix]
def wsL_law_r27 : List Cond := [Cond.static yX3_mix, Cond.code yX3_mix cX3_mix 3 (some .long), Cond.constantLong RX3 238 (31), Cond.methodLink RX3 205 yX3_mixLinks, Cond.instanceMethod yX3_mixLinks, Cond.selects RX3 yX3_mixLinks yX3_mixLinks, Cond.code yX3_mixLinks cX3_mixLinks 7 (some .long), Cond.methodLink RX3 224 yX3_mixLink, Cond.instanceMethod yX3_mixLink, Cond.selects RX3 yX3_mixLink yX3_mixLink, Cond.code yX3_mixLink cX3_mixLink 8 (some .long), Cond.methodLink RX3 228 yX3_link, Cond.methodLink RX3 208 yX3_mixSkews, Cond.instanceMethod yX3_mixSkews, Cond.selects RX3 yX3_mixSkews yX3_mixSkews, Cond.code yX3_mixSkews cX3_mixSkews 7 (some .long), Cond.methodLink RX3 232 yX3_skew, Cond.methodLink RX3 235 yX3_spread, Cond.methodLink RX3 211 yX2_letterAt, Cond.methodLink RX3 218 yX3_count, Cond.methodLink RL 97 yX4_digest, Cond.instanceMethod yX4_digest, Cond.selects RX4 yX4_digest yX4_digest, Cond.code yX4_digest cX4_digest 3 (some .long)]
def wsL_law_r28 : List Cond := [Cond.constantLong RX4 243 (1663), Cond.fieldLink RX4 235 "CloseClocksModel" "h" "J", Cond.methodLink RX4 239 yX4_mix, Cond.instanceMethod yX4_mix, Cond.selects RX4 yX4_mix yX4_mix, Cond.code yX4_mix cX4_mix 3 none, Cond.constantLong RX4 233 (31), Cond.methodLink RX4 245 yX4_mixLinks, Cond.instanceMethod yX4_mixLinks, Cond.selects RX4 yX4_mixLinks yX4_mixLinks, Cond.code yX4_mixLinks cX4_mixLinks 4 none, Cond.methodLink RX4 248 yX4_mixSkews, Cond.instanceMethod yX4_mixSkews, Cond.selects RX4 yX4_mixSkews yX4_mixSkews, Cond.code yX4_mixSkews cX4_mixSkews 2 none]
def wsL_law : List Cond := (wsL_law_r1 ++ (wsL_law_r2 ++ (wsL_law_r3 ++ (wsL_law_r4 ++ (wsL_law_r5 ++ (wsL_law_r6 ++ (wsL_law_r7 ++ (wsL_law_r8 ++ (wsL_law_r9 ++ (wsL_law_r10 ++ (wsL_law_r11 ++ (wsL_law_r12 ++ (wsL_law_r13 ++ (wsL_law_r14 ++ (wsL_law_r15 ++ (wsL_law_r16 ++ (wsL_law_r17 ++ (wsL_law_r18 ++ (wsL_law_r19 ++ (wsL_law_r20 ++ (wsL_law_r21 ++ (wsL_law_r22 ++ (wsL_law_r23 ++ (wsL_law_r24 ++ (wsL_law_r25 ++ (wsL_law_r26 ++ (wsL_law_r27 ++ wsL_law_r28))))))))))))))))))))))))))) ++ wsX30 ++ wsX40 ++ wsX20 ++ wsX10 ++ wsX00 ++ ([] : List Cond)
end
section
theorem dX0_init_0 : decode cX0_init 0 = .ok (.aload_n 0, 1) := by decide +kernel
theorem dX0_init_1 : decode cX0_init 1 = .ok (.invokespecial 3, 3) := by decide +kernel
theorem dX0_init_4 : decode cX0_init 4 = .ok (.aload_n 0, 1) := by decide +kernel
theorem dX0_init_5 : decode cX0_init 5 = .ok (.bipush 24, 2) := by decide +kernel
theorem dX0_init_7 : decode cX0_init 7 = .ok (.newarray .int, 2) := by decide +kernel
theorem dX0_init_9 : decode cX0_init 9 = .ok (.putfield 9, 3) := by decide +kernel
theorem dX0_init_12 : decode cX0_init 12 = .ok (.aload_n 0, 1) := by decide +kernel
theorem dX0_init_13 : decode cX0_init 13 = .ok (.bipush 6, 2) := by decide +kernel
theorem dX0_init_15 : decode cX0_init 15 = .ok (.newarray .int, 2) := by decide +kernel
theorem dX0_init_17 : decode cX0_init 17 = .ok (.putfield 15, 3) := by decide +kernel
theorem dX0_init_20 : decode cX0_init 20 = .ok (.aload_n 0, 1) := by decide +kernel
theorem dX0_init_21 : decode cX0_init 21 = .ok (.bipush 6, 2) := by decide +kernel
theorem dX0_init_23 : decode cX0_init 23 = .ok (.newarray .int, 2) := by decide +kernel
theorem dX0_init_25 : decode cX0_init 25 = .ok (.putfield 18, 3) := by decide +kernel
theorem dX0_init_28 : decode cX0_init 28 = .ok (.aload_n 0, 1) := by decide +kernel
theorem dX0_init_29 : decode cX0_init 29 = .ok (.bipush 6, 2) := by decide +kernel
theorem dX0_init_31 : decode cX0_init 31 = .ok (.newarray .int, 2) := by decide +kernel
theorem dX0_init_33 : decode cX0_init 33 = .ok (.putfield 21, 3) := by decide +kernel
theorem dX0_init_36 : decode cX0_init 36 = .ok (.aload_n 0, 1) := by decide +kernel
theorem dX0_init_37 : decode cX0_init 37 = .ok (.bipush 36, 2) := by decide +kernel
theorem dX0_init_39 : decode cX0_init 39 = .ok (.newarray .int, 2) := by decide +kernel
theorem dX0_init_41 : decode cX0_init 41 = .ok (.putfield 24, 3) := by decide +kernel
theorem dX0_init_44 : decode cX0_init 44 = .ok (.aload_n 0, 1) := by decide +kernel
theorem dX0_init_45 : decode cX0_init 45 = .ok (.bipush 36, 2) := by decide +kernel
theorem dX0_init_47 : decode cX0_init 47 = .ok (.newarray .int, 2) := by decide +kernel
theorem dX0_init_49 : decode cX0_init 49 = .ok (.putfield 27, 3) := by decide +kernel
theorem dX0_init_52 : decode cX0_init 52 = .ok (.aload_n 0, 1) := by decide +kernel
theorem dX0_init_53 : decode cX0_init 53 = .ok (.iconst 0, 1) := by decide +kernel
theorem dX0_init_54 : decode cX0_init 54 = .ok (.putfield 30, 3) := by decide +kernel
theorem dX0_init_57 : decode cX0_init 57 = .ok (.aload_n 0, 1) := by decide +kernel
theorem dX0_init_58 : decode cX0_init 58 = .ok (.iconst 0, 1) := by decide +kernel
theorem dX0_init_59 : decode cX0_init 59 = .ok (.putfield 34, 3) := by decide +kernel
theorem dX0_init_62 : decode cX0_init 62 = .ok (.aload_n 0, 1) := by decide +kernel
theorem dX0_init_63 : decode cX0_init 63 = .ok (.ldc 37, 2) := by decide +kernel
theorem dX0_init_65 : decode cX0_init 65 = .ok (.putfield 38, 3) := by decide +kernel
theorem dX0_init_68 : decode cX0_init 68 = .ok (.aload_n 0, 1) := by decide +kernel
theorem dX0_init_69 : decode cX0_init 69 = .ok (.ldc 37, 2) := by decide +kernel
theorem dX0_init_71 : decode cX0_init 71 = .ok (.putfield 41, 3) := by decide +kernel
theorem dX0_init_74 : decode cX0_init 74 = .ok (.aload_n 0, 1) := by decide +kernel
theorem dX0_init_75 : decode cX0_init 75 = .ok (.aload_n 1, 1) := by decide +kernel
theorem dX0_init_76 : decode cX0_init 76 = .ok (.putfield 44, 3) := by decide +kernel
theorem dX0_init_79 : decode cX0_init 79 = .ok (.return_, 1) := by decide +kernel
set_option maxRecDepth 20000 in
theorem ggX0_startFrom_J7_fill_53178 : GoodIn wsX0_startFrom wsJ7_fill_53178 := goodIn_r _ [12] (by decide +kernel) (by decide +kernel)
set_option maxRecDepth 20000 in
theorem gX0_startFrom_J7_fill_53178 : GoodIn wsX0_startFrom (va_wsS RX0 48 yJ7_fill_53178 wsJ7_fill_53178) := goodIn_app (goodIn_of _ (by decide +kernel)) ggX0_startFrom_J7_fill_53178
set_option maxRecDepth 20000 in
theorem ggX0_startFrom_X2_placeOfLink : GoodIn wsX0_startFrom wsX2_placeOfLink := goodIn_r _ [16] (by decide +kernel) (by decide +kernel)
set_option maxRecDepth 20000 in
theorem gX0_startFrom_X2_placeOfLink : GoodIn wsX0_startFrom (va_wsS RX0 59 yX2_placeOfLink wsX2_placeOfLink) := goodIn_app (goodIn_of _ (by decide +kernel)) ggX0_startFrom_X2_placeOfLink
set_option maxRecDepth 20000 in
theorem ggX0_startFrom_X2_digitAt : GoodIn wsX0_startFrom wsX2_digitAt := goodIn_r _ [20, 21, 22, 23, 15, 24, 25, 26, 27, 64, 65] (by decide +kernel) (by decide +kernel)
set_option maxRecDepth 20000 in
theorem gX0_startFrom_X2_digitAt : GoodIn wsX0_startFrom (wsV RX0 65 RX2 yX2_digitAt wsX2_digitAt) := goodIn_app (goodIn_of _ (by decide +kernel)) ggX0_startFrom_X2_digitAt
set_option maxRecDepth 20000 in
theorem ggX0_startFrom_X0_tellDelay : GoodIn wsX0_startFrom wsX0_tellDelay := goodIn_r _ [32, 6, 33, 34, 35, 36, 37, 38, 39, 40, 41, 42, 43, 44, 45, 46, 47, 48, 49, 50, 51, 52, 53, 54, 55, 56, 57, 58, 59, 60, 61, 62, 63] (by decide +kernel) (by decide +kernel)
set_option maxRecDepth 20000 in
theorem gX0_startFrom_X0_tellDelay : GoodIn wsX0_startFrom (wsV RX0 68 RX0 yX0_tellDelay wsX0_tellDelay) := goodIn_app (goodIn_of _ (by decide +kernel)) ggX0_startFrom_X0_tellDelay
theorem dX0_startFrom_0 : decode cX0_startFrom 0 = .ok (.aload_n 0, 1) := by decide +kernel
theorem dX0_startFrom_1 : decode cX0_startFrom 1 = .ok (.getfield 9, 3) := by decide +kernel
theorem dX0_startFrom_4 : decode cX0_startFrom 4 = .ok (.iconst 0, 1) := by decide +kernel
theorem dX0_startFrom_5 : decode cX0_startFrom 5 = .ok (.invokestatic 48, 3) := by decide +kernel
theorem dX0_startFrom_8 : decode cX0_startFrom 8 = .ok (.aload_n 0, 1) := by decide +kernel
theorem dX0_startFrom_9 : decode cX0_startFrom 9 = .ok (.getfield 15, 3) := by decide +kernel
theorem dX0_startFrom_12 : decode cX0_startFrom 12 = .ok (.bipush 100, 2) := by decide +kernel
theorem dX0_startFrom_14 : decode cX0_startFrom 14 = .ok (.invokestatic 48, 3) := by decide +kernel
theorem dX0_startFrom_17 : decode cX0_startFrom 17 = .ok (.aload_n 0, 1) := by decide +kernel
theorem dX0_startFrom_18 : decode cX0_startFrom 18 = .ok (.getfield 18, 3) := by decide +kernel
theorem dX0_startFrom_21 : decode cX0_startFrom 21 = .ok (.iconst 0, 1) := by decide +kernel
theorem dX0_startFrom_22 : decode cX0_startFrom 22 = .ok (.invokestatic 48, 3) := by decide +kernel
theorem dX0_startFrom_25 : decode cX0_startFrom 25 = .ok (.aload_n 0, 1) := by decide +kernel
theorem dX0_startFrom_26 : decode cX0_startFrom 26 = .ok (.getfield 21, 3) := by decide +kernel
theorem dX0_startFrom_29 : decode cX0_startFrom 29 = .ok (.iconst 0, 1) := by decide +kernel
theorem dX0_startFrom_30 : decode cX0_startFrom 30 = .ok (.invokestatic 48, 3) := by decide +kernel
theorem dX0_startFrom_33 : decode cX0_startFrom 33 = .ok (.aload_n 0, 1) := by decide +kernel
theorem dX0_startFrom_34 : decode cX0_startFrom 34 = .ok (.getfield 27, 3) := by decide +kernel
theorem dX0_startFrom_37 : decode cX0_startFrom 37 = .ok (.iconst 0, 1) := by decide +kernel
theorem dX0_startFrom_38 : decode cX0_startFrom 38 = .ok (.invokestatic 48, 3) := by decide +kernel
theorem dX0_startFrom_41 : decode cX0_startFrom 41 = .ok (.iconst 0, 1) := by decide +kernel
theorem dX0_startFrom_42 : decode cX0_startFrom 42 = .ok (.istore_n 2, 1) := by decide +kernel
theorem dX0_startFrom_43 : decode cX0_startFrom 43 = .ok (.iload_n 2, 1) := by decide +kernel
theorem dX0_startFrom_44 : decode cX0_startFrom 44 = .ok (.aload_n 0, 1) := by decide +kernel
theorem dX0_startFrom_45 : decode cX0_startFrom 45 = .ok (.getfield 44, 3) := by decide +kernel
theorem dX0_startFrom_48 : decode cX0_startFrom 48 = .ok (.getfield 54, 3) := by decide +kernel
theorem dX0_startFrom_51 : decode cX0_startFrom 51 = .ok (.if_icmp .ge 37, 3) := by decide +kernel
theorem dX0_startFrom_54 : decode cX0_startFrom 54 = .ok (.iload_n 2, 1) := by decide +kernel
theorem dX0_startFrom_55 : decode cX0_startFrom 55 = .ok (.invokestatic 59, 3) := by decide +kernel
theorem dX0_startFrom_58 : decode cX0_startFrom 58 = .ok (.istore_n 3, 1) := by decide +kernel
theorem dX0_startFrom_59 : decode cX0_startFrom 59 = .ok (.aload_n 0, 1) := by decide +kernel
theorem dX0_startFrom_60 : decode cX0_startFrom 60 = .ok (.aload_n 1, 1) := by decide +kernel
theorem dX0_startFrom_61 : decode cX0_startFrom 61 = .ok (.iload_n 3, 1) := by decide +kernel
theorem dX0_startFrom_62 : decode cX0_startFrom 62 = .ok (.invokevirtual 65, 3) := by decide +kernel
theorem dX0_startFrom_65 : decode cX0_startFrom 65 = .ok (.aload_n 1, 1) := by decide +kernel
theorem dX0_startFrom_66 : decode cX0_startFrom 66 = .ok (.iload_n 3, 1) := by decide +kernel
theorem dX0_startFrom_67 : decode cX0_startFrom 67 = .ok (.iconst 1, 1) := by decide +kernel
theorem dX0_startFrom_68 : decode cX0_startFrom 68 = .ok (.iadd, 1) := by decide +kernel
theorem dX0_startFrom_69 : decode cX0_startFrom 69 = .ok (.invokevirtual 65, 3) := by decide +kernel
theorem dX0_startFrom_72 : decode cX0_startFrom 72 = .ok (.aload_n 1, 1) := by decide +kernel
theorem dX0_startFrom_73 : decode cX0_startFrom 73 = .ok (.iload_n 3, 1) := by decide +kernel
theorem dX0_startFrom_74 : decode cX0_startFrom 74 = .ok (.iconst 2, 1) := by decide +kernel
theorem dX0_startFrom_75 : decode cX0_startFrom 75 = .ok (.iadd, 1) := by decide +kernel
theorem dX0_startFrom_76 : decode cX0_startFrom 76 = .ok (.invokevirtual 65, 3) := by decide +kernel
theorem dX0_startFrom_79 : decode cX0_startFrom 79 = .ok (.invokevirtual 68, 3) := by decide +kernel
theorem dX0_startFrom_82 : decode cX0_startFrom 82 = .ok (.iinc 2 1, 3) := by decide +kernel
theorem dX0_startFrom_85 : decode cX0_startFrom 85 = .ok (.goto (-42), 3) := by decide +kernel
theorem dX0_startFrom_88 : decode cX0_startFrom 88 = .ok (.aload_n 0, 1) := by decide +kernel
theorem dX0_startFrom_89 : decode cX0_startFrom 89 = .ok (.iconst 0, 1) := by decide +kernel
theorem dX0_startFrom_90 : decode cX0_startFrom 90 = .ok (.putfield 30, 3) := by decide +kernel
theorem dX0_startFrom_93 : decode cX0_startFrom 93 = .ok (.aload_n 0, 1) := by decide +kernel
theorem dX0_startFrom_94 : decode cX0_startFrom 94 = .ok (.iconst 0, 1) := by decide +kernel
theorem dX0_startFrom_95 : decode cX0_startFrom 95 = .ok (.putfield 34, 3) := by decide +kernel
theorem dX0_startFrom_98 : decode cX0_startFrom 98 = .ok (.return_, 1) := by decide +kernel
set_option maxRecDepth 20000 in
theorem ggX0_copyAll_X0_copyMotion : GoodIn wsX0_copyAll wsX0_copyMotion := goodIn_r _ [15, 16, 2, 3, 4, 5, 17, 18, 19, 20, 21, 22, 23, 24, 25, 26, 27, 28] (by decide +kernel) (by decide +kernel)
set_option maxRecDepth 20000 in
theorem gX0_copyAll_X0_copyMotion : GoodIn wsX0_copyAll (wsV RX0 72 RX0 yX0_copyMotion wsX0_copyMotion) := goodIn_app (goodIn_of _ (by decide +kernel)) ggX0_copyAll_X0_copyMotion
theorem dX0_copyAll_0 : decode cX0_copyAll 0 = .ok (.aload_n 0, 1) := by decide +kernel
theorem dX0_copyAll_1 : decode cX0_copyAll 1 = .ok (.aload_n 1, 1) := by decide +kernel
theorem dX0_copyAll_2 : decode cX0_copyAll 2 = .ok (.invokevirtual 72, 3) := by decide +kernel
theorem dX0_copyAll_5 : decode cX0_copyAll 5 = .ok (.aload_n 1, 1) := by decide +kernel
theorem dX0_copyAll_6 : decode cX0_copyAll 6 = .ok (.getfield 15, 3) := by decide +kernel
theorem dX0_copyAll_9 : decode cX0_copyAll 9 = .ok (.iconst 0, 1) := by decide +kernel
theorem dX0_copyAll_10 : decode cX0_copyAll 10 = .ok (.aload_n 0, 1) := by decide +kernel
theorem dX0_copyAll_11 : decode cX0_copyAll 11 = .ok (.getfield 15, 3) := by decide +kernel
theorem dX0_copyAll_14 : decode cX0_copyAll 14 = .ok (.iconst 0, 1) := by decide +kernel
theorem dX0_copyAll_15 : decode cX0_copyAll 15 = .ok (.aload_n 0, 1) := by decide +kernel
theorem dX0_copyAll_16 : decode cX0_copyAll 16 = .ok (.getfield 15, 3) := by decide +kernel
theorem dX0_copyAll_19 : decode cX0_copyAll 19 = .ok (.arraylength, 1) := by decide +kernel
theorem dX0_copyAll_20 : decode cX0_copyAll 20 = .ok (.invokestatic 76, 3) := by decide +kernel
theorem dX0_copyAll_23 : decode cX0_copyAll 23 = .ok (.aload_n 1, 1) := by decide +kernel
theorem dX0_copyAll_24 : decode cX0_copyAll 24 = .ok (.getfield 21, 3) := by decide +kernel
theorem dX0_copyAll_27 : decode cX0_copyAll 27 = .ok (.iconst 0, 1) := by decide +kernel
theorem dX0_copyAll_28 : decode cX0_copyAll 28 = .ok (.aload_n 0, 1) := by decide +kernel
theorem dX0_copyAll_29 : decode cX0_copyAll 29 = .ok (.getfield 21, 3) := by decide +kernel
theorem dX0_copyAll_32 : decode cX0_copyAll 32 = .ok (.iconst 0, 1) := by decide +kernel
theorem dX0_copyAll_33 : decode cX0_copyAll 33 = .ok (.aload_n 0, 1) := by decide +kernel
theorem dX0_copyAll_34 : decode cX0_copyAll 34 = .ok (.getfield 21, 3) := by decide +kernel
theorem dX0_copyAll_37 : decode cX0_copyAll 37 = .ok (.arraylength, 1) := by decide +kernel
theorem dX0_copyAll_38 : decode cX0_copyAll 38 = .ok (.invokestatic 76, 3) := by decide +kernel
theorem dX0_copyAll_41 : decode cX0_copyAll 41 = .ok (.aload_n 1, 1) := by decide +kernel
theorem dX0_copyAll_42 : decode cX0_copyAll 42 = .ok (.getfield 24, 3) := by decide +kernel
theorem dX0_copyAll_45 : decode cX0_copyAll 45 = .ok (.iconst 0, 1) := by decide +kernel
theorem dX0_copyAll_46 : decode cX0_copyAll 46 = .ok (.aload_n 0, 1) := by decide +kernel
theorem dX0_copyAll_47 : decode cX0_copyAll 47 = .ok (.getfield 24, 3) := by decide +kernel
theorem dX0_copyAll_50 : decode cX0_copyAll 50 = .ok (.iconst 0, 1) := by decide +kernel
theorem dX0_copyAll_51 : decode cX0_copyAll 51 = .ok (.aload_n 0, 1) := by decide +kernel
theorem dX0_copyAll_52 : decode cX0_copyAll 52 = .ok (.getfield 24, 3) := by decide +kernel
theorem dX0_copyAll_55 : decode cX0_copyAll 55 = .ok (.arraylength, 1) := by decide +kernel
theorem dX0_copyAll_56 : decode cX0_copyAll 56 = .ok (.invokestatic 76, 3) := by decide +kernel
theorem dX0_copyAll_59 : decode cX0_copyAll 59 = .ok (.aload_n 1, 1) := by decide +kernel
theorem dX0_copyAll_60 : decode cX0_copyAll 60 = .ok (.getfield 27, 3) := by decide +kernel
theorem dX0_copyAll_63 : decode cX0_copyAll 63 = .ok (.iconst 0, 1) := by decide +kernel
theorem dX0_copyAll_64 : decode cX0_copyAll 64 = .ok (.aload_n 0, 1) := by decide +kernel
theorem dX0_copyAll_65 : decode cX0_copyAll 65 = .ok (.getfield 27, 3) := by decide +kernel
theorem dX0_copyAll_68 : decode cX0_copyAll 68 = .ok (.iconst 0, 1) := by decide +kernel
theorem dX0_copyAll_69 : decode cX0_copyAll 69 = .ok (.aload_n 0, 1) := by decide +kernel
theorem dX0_copyAll_70 : decode cX0_copyAll 70 = .ok (.getfield 27, 3) := by decide +kernel
theorem dX0_copyAll_73 : decode cX0_copyAll 73 = .ok (.arraylength, 1) := by decide +kernel
theorem dX0_copyAll_74 : decode cX0_copyAll 74 = .ok (.invokestatic 76, 3) := by decide +kernel
theorem dX0_copyAll_77 : decode cX0_copyAll 77 = .ok (.aload_n 0, 1) := by decide +kernel
theorem dX0_copyAll_78 : decode cX0_copyAll 78 = .ok (.aload_n 1, 1) := by decide +kernel
theorem dX0_copyAll_79 : decode cX0_copyAll 79 = .ok (.getfield 30, 3) := by decide +kernel
theorem dX0_copyAll_82 : decode cX0_copyAll 82 = .ok (.putfield 30, 3) := by decide +kernel
theorem dX0_copyAll_85 : decode cX0_copyAll 85 = .ok (.aload_n 0, 1) := by decide +kernel
theorem dX0_copyAll_86 : decode cX0_copyAll 86 = .ok (.aload_n 1, 1) := by decide +kernel
theorem dX0_copyAll_87 : decode cX0_copyAll 87 = .ok (.getfield 34, 3) := by decide +kernel
theorem dX0_copyAll_90 : decode cX0_copyAll 90 = .ok (.putfield 34, 3) := by decide +kernel
theorem dX0_copyAll_93 : decode cX0_copyAll 93 = .ok (.return_, 1) := by decide +kernel
theorem dX0_copyMotion_0 : decode cX0_copyMotion 0 = .ok (.aload_n 1, 1) := by decide +kernel
theorem dX0_copyMotion_1 : decode cX0_copyMotion 1 = .ok (.getfield 9, 3) := by decide +kernel
theorem dX0_copyMotion_4 : decode cX0_copyMotion 4 = .ok (.iconst 0, 1) := by decide +kernel
theorem dX0_copyMotion_5 : decode cX0_copyMotion 5 = .ok (.aload_n 0, 1) := by decide +kernel
theorem dX0_copyMotion_6 : decode cX0_copyMotion 6 = .ok (.getfield 9, 3) := by decide +kernel
theorem dX0_copyMotion_9 : decode cX0_copyMotion 9 = .ok (.iconst 0, 1) := by decide +kernel
theorem dX0_copyMotion_10 : decode cX0_copyMotion 10 = .ok (.aload_n 0, 1) := by decide +kernel
theorem dX0_copyMotion_11 : decode cX0_copyMotion 11 = .ok (.getfield 9, 3) := by decide +kernel
theorem dX0_copyMotion_14 : decode cX0_copyMotion 14 = .ok (.arraylength, 1) := by decide +kernel
theorem dX0_copyMotion_15 : decode cX0_copyMotion 15 = .ok (.invokestatic 76, 3) := by decide +kernel
theorem dX0_copyMotion_18 : decode cX0_copyMotion 18 = .ok (.aload_n 1, 1) := by decide +kernel
theorem dX0_copyMotion_19 : decode cX0_copyMotion 19 = .ok (.getfield 18, 3) := by decide +kernel
theorem dX0_copyMotion_22 : decode cX0_copyMotion 22 = .ok (.iconst 0, 1) := by decide +kernel
theorem dX0_copyMotion_23 : decode cX0_copyMotion 23 = .ok (.aload_n 0, 1) := by decide +kernel
theorem dX0_copyMotion_24 : decode cX0_copyMotion 24 = .ok (.getfield 18, 3) := by decide +kernel
theorem dX0_copyMotion_27 : decode cX0_copyMotion 27 = .ok (.iconst 0, 1) := by decide +kernel
theorem dX0_copyMotion_28 : decode cX0_copyMotion 28 = .ok (.aload_n 0, 1) := by decide +kernel
theorem dX0_copyMotion_29 : decode cX0_copyMotion 29 = .ok (.getfield 18, 3) := by decide +kernel
theorem dX0_copyMotion_32 : decode cX0_copyMotion 32 = .ok (.arraylength, 1) := by decide +kernel
theorem dX0_copyMotion_33 : decode cX0_copyMotion 33 = .ok (.invokestatic 76, 3) := by decide +kernel
theorem dX0_copyMotion_36 : decode cX0_copyMotion 36 = .ok (.return_, 1) := by decide +kernel
theorem dX0_tellRates_0 : decode cX0_tellRates 0 = .ok (.iconst 0, 1) := by decide +kernel
theorem dX0_tellRates_1 : decode cX0_tellRates 1 = .ok (.istore_n 2, 1) := by decide +kernel
theorem dX0_tellRates_2 : decode cX0_tellRates 2 = .ok (.iload_n 2, 1) := by decide +kernel
theorem dX0_tellRates_3 : decode cX0_tellRates 3 = .ok (.aload_n 0, 1) := by decide +kernel
theorem dX0_tellRates_4 : decode cX0_tellRates 4 = .ok (.getfield 44, 3) := by decide +kernel
theorem dX0_tellRates_7 : decode cX0_tellRates 7 = .ok (.getfield 82, 3) := by decide +kernel
theorem dX0_tellRates_10 : decode cX0_tellRates 10 = .ok (.if_icmp .ge 31, 3) := by decide +kernel
theorem dX0_tellRates_13 : decode cX0_tellRates 13 = .ok (.aload_n 0, 1) := by decide +kernel
theorem dX0_tellRates_14 : decode cX0_tellRates 14 = .ok (.getfield 15, 3) := by decide +kernel
theorem dX0_tellRates_17 : decode cX0_tellRates 17 = .ok (.iload_n 2, 1) := by decide +kernel
theorem dX0_tellRates_18 : decode cX0_tellRates 18 = .ok (.iload_n 1, 1) := by decide +kernel
theorem dX0_tellRates_19 : decode cX0_tellRates 19 = .ok (.iload_n 2, 1) := by decide +kernel
theorem dX0_tellRates_20 : decode cX0_tellRates 20 = .ok (.ishr, 1) := by decide +kernel
theorem dX0_tellRates_21 : decode cX0_tellRates 21 = .ok (.iconst 1, 1) := by decide +kernel
theorem dX0_tellRates_22 : decode cX0_tellRates 22 = .ok (.iand, 1) := by decide +kernel
theorem dX0_tellRates_23 : decode cX0_tellRates 23 = .ok (.iconst 1, 1) := by decide +kernel
theorem dX0_tellRates_24 : decode cX0_tellRates 24 = .ok (.if_icmp .ne 8, 3) := by decide +kernel
theorem dX0_tellRates_27 : decode cX0_tellRates 27 = .ok (.bipush 110, 2) := by decide +kernel
theorem dX0_tellRates_29 : decode cX0_tellRates 29 = .ok (.goto 5, 3) := by decide +kernel
theorem dX0_tellRates_32 : decode cX0_tellRates 32 = .ok (.bipush 90, 2) := by decide +kernel
theorem dX0_tellRates_34 : decode cX0_tellRates 34 = .ok (.iastore, 1) := by decide +kernel
theorem dX0_tellRates_35 : decode cX0_tellRates 35 = .ok (.iinc 2 1, 3) := by decide +kernel
theorem dX0_tellRates_38 : decode cX0_tellRates 38 = .ok (.goto (-36), 3) := by decide +kernel
theorem dX0_tellRates_41 : decode cX0_tellRates 41 = .ok (.return_, 1) := by decide +kernel
set_option maxRecDepth 20000 in
theorem ggX0_tellDelay_X1_hasLink : GoodIn wsX0_tellDelay wsX1_hasLink := goodIn_r _ [7, 8, 9, 10, 11, 6, 12, 13, 14, 15, 16, 28, 29, 30, 31, 32] (by decide +kernel) (by decide +kernel)
set_option maxRecDepth 20000 in
theorem gX0_tellDelay_X1_hasLink : GoodIn wsX0_tellDelay (wsV RX0 85 RX1 yX1_hasLink wsX1_hasLink) := goodIn_app (goodIn_of _ (by decide +kernel)) ggX0_tellDelay_X1_hasLink
set_option maxRecDepth 20000 in
theorem ggX0_tellDelay_X3_cell : GoodIn wsX0_tellDelay wsX3_cell := goodIn_r _ [16] (by decide +kernel) (by decide +kernel)
set_option maxRecDepth 20000 in
theorem gX0_tellDelay_X3_cell_n89 : GoodIn wsX0_tellDelay (wsX3_cell) := ggX0_tellDelay_X3_cell
theorem dX0_tellDelay_0 : decode cX0_tellDelay 0 = .ok (.aload_n 0, 1) := by decide +kernel
theorem dX0_tellDelay_1 : decode cX0_tellDelay 1 = .ok (.getfield 44, 3) := by decide +kernel
theorem dX0_tellDelay_4 : decode cX0_tellDelay 4 = .ok (.iload_n 1, 1) := by decide +kernel
theorem dX0_tellDelay_5 : decode cX0_tellDelay 5 = .ok (.iload_n 2, 1) := by decide +kernel
theorem dX0_tellDelay_6 : decode cX0_tellDelay 6 = .ok (.invokevirtual 85, 3) := by decide +kernel
theorem dX0_tellDelay_9 : decode cX0_tellDelay 9 = .ok (.ifCond .eq 25, 3) := by decide +kernel
theorem dX0_tellDelay_12 : decode cX0_tellDelay 12 = .ok (.aload_n 0, 1) := by decide +kernel
theorem dX0_tellDelay_13 : decode cX0_tellDelay 13 = .ok (.getfield 24, 3) := by decide +kernel
theorem dX0_tellDelay_16 : decode cX0_tellDelay 16 = .ok (.iload_n 1, 1) := by decide +kernel
theorem dX0_tellDelay_17 : decode cX0_tellDelay 17 = .ok (.iload_n 2, 1) := by decide +kernel
theorem dX0_tellDelay_18 : decode cX0_tellDelay 18 = .ok (.invokestatic 89, 3) := by decide +kernel
theorem dX0_tellDelay_21 : decode cX0_tellDelay 21 = .ok (.iload_n 3, 1) := by decide +kernel
theorem dX0_tellDelay_22 : decode cX0_tellDelay 22 = .ok (.iastore, 1) := by decide +kernel
theorem dX0_tellDelay_23 : decode cX0_tellDelay 23 = .ok (.aload_n 0, 1) := by decide +kernel
theorem dX0_tellDelay_24 : decode cX0_tellDelay 24 = .ok (.getfield 24, 3) := by decide +kernel
theorem dX0_tellDelay_27 : decode cX0_tellDelay 27 = .ok (.iload_n 2, 1) := by decide +kernel
theorem dX0_tellDelay_28 : decode cX0_tellDelay 28 = .ok (.iload_n 1, 1) := by decide +kernel
theorem dX0_tellDelay_29 : decode cX0_tellDelay 29 = .ok (.invokestatic 89, 3) := by decide +kernel
theorem dX0_tellDelay_32 : decode cX0_tellDelay 32 = .ok (.iload_n 3, 1) := by decide +kernel
theorem dX0_tellDelay_33 : decode cX0_tellDelay 33 = .ok (.iastore, 1) := by decide +kernel
theorem dX0_tellDelay_34 : decode cX0_tellDelay 34 = .ok (.return_, 1) := by decide +kernel
set_option maxRecDepth 20000 in
theorem ggX0_tellClock_X3_cell : GoodIn wsX0_tellClock wsX3_cell := goodIn_r _ [4] (by decide +kernel) (by decide +kernel)
set_option maxRecDepth 20000 in
theorem gX0_tellClock_X3_cell_n89 : GoodIn wsX0_tellClock (wsX3_cell) := ggX0_tellClock_X3_cell
theorem dX0_tellClock_0 : decode cX0_tellClock 0 = .ok (.iconst 0, 1) := by decide +kernel
theorem dX0_tellClock_1 : decode cX0_tellClock 1 = .ok (.istore_n 3, 1) := by decide +kernel
theorem dX0_tellClock_2 : decode cX0_tellClock 2 = .ok (.iload_n 3, 1) := by decide +kernel
theorem dX0_tellClock_3 : decode cX0_tellClock 3 = .ok (.iconst 3, 1) := by decide +kernel
theorem dX0_tellClock_4 : decode cX0_tellClock 4 = .ok (.if_icmp .gt 20, 3) := by decide +kernel
theorem dX0_tellClock_7 : decode cX0_tellClock 7 = .ok (.aload_n 0, 1) := by decide +kernel
theorem dX0_tellClock_8 : decode cX0_tellClock 8 = .ok (.getfield 9, 3) := by decide +kernel
theorem dX0_tellClock_11 : decode cX0_tellClock 11 = .ok (.iload_n 3, 1) := by decide +kernel
theorem dX0_tellClock_12 : decode cX0_tellClock 12 = .ok (.iload_n 1, 1) := by decide +kernel
theorem dX0_tellClock_13 : decode cX0_tellClock 13 = .ok (.invokestatic 89, 3) := by decide +kernel
theorem dX0_tellClock_16 : decode cX0_tellClock 16 = .ok (.iload_n 2, 1) := by decide +kernel
theorem dX0_tellClock_17 : decode cX0_tellClock 17 = .ok (.iastore, 1) := by decide +kernel
theorem dX0_tellClock_18 : decode cX0_tellClock 18 = .ok (.iinc 3 1, 3) := by decide +kernel
theorem dX0_tellClock_21 : decode cX0_tellClock 21 = .ok (.goto (-19), 3) := by decide +kernel
theorem dX0_tellClock_24 : decode cX0_tellClock 24 = .ok (.return_, 1) := by decide +kernel
theorem dX0_clockOf_0 : decode cX0_clockOf 0 = .ok (.aload_n 0, 1) := by decide +kernel
theorem dX0_clockOf_1 : decode cX0_clockOf 1 = .ok (.getfield 9, 3) := by decide +kernel
theorem dX0_clockOf_4 : decode cX0_clockOf 4 = .ok (.iload_n 1, 1) := by decide +kernel
theorem dX0_clockOf_5 : decode cX0_clockOf 5 = .ok (.iaload, 1) := by decide +kernel
theorem dX0_clockOf_6 : decode cX0_clockOf 6 = .ok (.ireturn, 1) := by decide +kernel
set_option maxRecDepth 20000 in
theorem ggX0_guess_X3_cell : GoodIn wsX0_guess wsX3_cell := goodIn_r _ [6] (by decide +kernel) (by decide +kernel)
set_option maxRecDepth 20000 in
theorem gX0_guess_X3_cell_n89 : GoodIn wsX0_guess (wsX3_cell) := ggX0_guess_X3_cell
theorem dX0_guess_0 : decode cX0_guess 0 = .ok (.iload_n 1, 1) := by decide +kernel
theorem dX0_guess_1 : decode cX0_guess 1 = .ok (.iload_n 2, 1) := by decide +kernel
theorem dX0_guess_2 : decode cX0_guess 2 = .ok (.invokestatic 89, 3) := by decide +kernel
theorem dX0_guess_5 : decode cX0_guess 5 = .ok (.istore_n 3, 1) := by decide +kernel
theorem dX0_guess_6 : decode cX0_guess 6 = .ok (.aload_n 0, 1) := by decide +kernel
theorem dX0_guess_7 : decode cX0_guess 7 = .ok (.getfield 24, 3) := by decide +kernel
theorem dX0_guess_10 : decode cX0_guess 10 = .ok (.iload_n 3, 1) := by decide +kernel
theorem dX0_guess_11 : decode cX0_guess 11 = .ok (.iaload, 1) := by decide +kernel
theorem dX0_guess_12 : decode cX0_guess 12 = .ok (.istore 4, 2) := by decide +kernel
theorem dX0_guess_14 : decode cX0_guess 14 = .ok (.aload_n 0, 1) := by decide +kernel
theorem dX0_guess_15 : decode cX0_guess 15 = .ok (.getfield 9, 3) := by decide +kernel
theorem dX0_guess_18 : decode cX0_guess 18 = .ok (.iload 4, 2) := by decide +kernel
theorem dX0_guess_20 : decode cX0_guess 20 = .ok (.iload_n 2, 1) := by decide +kernel
theorem dX0_guess_21 : decode cX0_guess 21 = .ok (.invokestatic 89, 3) := by decide +kernel
theorem dX0_guess_24 : decode cX0_guess 24 = .ok (.iaload, 1) := by decide +kernel
theorem dX0_guess_25 : decode cX0_guess 25 = .ok (.bipush 100, 2) := by decide +kernel
theorem dX0_guess_27 : decode cX0_guess 27 = .ok (.iload 4, 2) := by decide +kernel
theorem dX0_guess_29 : decode cX0_guess 29 = .ok (.imul, 1) := by decide +kernel
theorem dX0_guess_30 : decode cX0_guess 30 = .ok (.iadd, 1) := by decide +kernel
theorem dX0_guess_31 : decode cX0_guess 31 = .ok (.aload_n 0, 1) := by decide +kernel
theorem dX0_guess_32 : decode cX0_guess 32 = .ok (.getfield 27, 3) := by decide +kernel
theorem dX0_guess_35 : decode cX0_guess 35 = .ok (.iload_n 3, 1) := by decide +kernel
theorem dX0_guess_36 : decode cX0_guess 36 = .ok (.iaload, 1) := by decide +kernel
theorem dX0_guess_37 : decode cX0_guess 37 = .ok (.iadd, 1) := by decide +kernel
theorem dX0_guess_38 : decode cX0_guess 38 = .ok (.ireturn, 1) := by decide +kernel
set_option maxRecDepth 20000 in
theorem ggX0_aheadOf_X0_compareGuesses : GoodIn wsX0_aheadOf wsX0_compareGuesses := goodIn_r _ [6, 7, 8, 9, 10, 11, 12, 1, 13, 14, 15, 16, 5, 17, 18, 19, 20, 21, 22, 23, 24, 25, 26, 27, 28, 29, 30, 31, 32, 33, 34, 35, 36, 37, 38, 39, 40, 41, 42, 43, 44, 45, 46, 47, 48, 49] (by decide +kernel) (by decide +kernel)
set_option maxRecDepth 20000 in
theorem gX0_aheadOf_X0_compareGuesses : GoodIn wsX0_aheadOf (wsV RX0 93 RX0 yX0_compareGuesses wsX0_compareGuesses) := goodIn_app (goodIn_of _ (by decide +kernel)) ggX0_aheadOf_X0_compareGuesses
theorem dX0_aheadOf_0 : decode cX0_aheadOf 0 = .ok (.aload_n 0, 1) := by decide +kernel
theorem dX0_aheadOf_1 : decode cX0_aheadOf 1 = .ok (.iload_n 1, 1) := by decide +kernel
theorem dX0_aheadOf_2 : decode cX0_aheadOf 2 = .ok (.invokevirtual 93, 3) := by decide +kernel
theorem dX0_aheadOf_5 : decode cX0_aheadOf 5 = .ok (.aload_n 0, 1) := by decide +kernel
theorem dX0_aheadOf_6 : decode cX0_aheadOf 6 = .ok (.getfield 38, 3) := by decide +kernel
theorem dX0_aheadOf_9 : decode cX0_aheadOf 9 = .ok (.ireturn, 1) := by decide +kernel
set_option maxRecDepth 20000 in
theorem ggX0_behindOf_X0_compareGuesses : GoodIn wsX0_behindOf wsX0_compareGuesses := goodIn_r _ [6, 7, 8, 9, 10, 11, 12, 13, 1, 14, 15, 16, 5, 17, 18, 19, 20, 21, 22, 23, 24, 25, 26, 27, 28, 29, 30, 31, 32, 33, 34, 35, 36, 37, 38, 39, 40, 41, 42, 43, 44, 45, 46, 47, 48, 49] (by decide +kernel) (by decide +kernel)
set_option maxRecDepth 20000 in
theorem gX0_behindOf_X0_compareGuesses : GoodIn wsX0_behindOf (wsV RX0 93 RX0 yX0_compareGuesses wsX0_compareGuesses) := goodIn_app (goodIn_of _ (by decide +kernel)) ggX0_behindOf_X0_compareGuesses
theorem dX0_behindOf_0 : decode cX0_behindOf 0 = .ok (.aload_n 0, 1) := by decide +kernel
theorem dX0_behindOf_1 : decode cX0_behindOf 1 = .ok (.iload_n 1, 1) := by decide +kernel
theorem dX0_behindOf_2 : decode cX0_behindOf 2 = .ok (.invokevirtual 93, 3) := by decide +kernel
theorem dX0_behindOf_5 : decode cX0_behindOf 5 = .ok (.aload_n 0, 1) := by decide +kernel
theorem dX0_behindOf_6 : decode cX0_behindOf 6 = .ok (.getfield 41, 3) := by decide +kernel
theorem dX0_behindOf_9 : decode cX0_behindOf 9 = .ok (.ireturn, 1) := by decide +kernel
set_option maxRecDepth 20000 in
theorem ggX0_leastUp_X0_compareGuesses : GoodIn wsX0_leastUp wsX0_compareGuesses := goodIn_r _ [5, 6, 7, 8, 9, 10, 11, 12, 13, 14, 15, 16, 4, 17, 18, 19, 20, 21, 22, 23, 24, 25, 26, 27, 28, 29, 30, 31, 32, 33, 43, 44, 45, 46, 47, 48, 49, 50, 51, 52, 53, 54, 55, 56, 57, 58] (by decide +kernel) (by decide +kernel)
set_option maxRecDepth 20000 in
theorem gX0_leastUp_X0_compareGuesses : GoodIn wsX0_leastUp (wsV RX0 93 RX0 yX0_compareGuesses wsX0_compareGuesses) := goodIn_app (goodIn_of _ (by decide +kernel)) ggX0_leastUp_X0_compareGuesses
set_option maxRecDepth 20000 in
theorem ggX0_leastUp_X0_upLevel : GoodIn wsX0_leastUp wsX0_upLevel := goodIn_r _ [37, 13, 12, 6, 38, 26, 39, 40, 41, 42, 43, 44, 45, 46, 47, 48, 49, 50, 51, 52, 53] (by decide +kernel) (by decide +kernel)
set_option maxRecDepth 20000 in
theorem gX0_leastUp_X0_upLevel : GoodIn wsX0_leastUp (wsV RX0 97 RX0 yX0_upLevel wsX0_upLevel) := goodIn_app (goodIn_of _ (by decide +kernel)) ggX0_leastUp_X0_upLevel
theorem dX0_leastUp_0 : decode cX0_leastUp 0 = .ok (.aload_n 0, 1) := by decide +kernel
theorem dX0_leastUp_1 : decode cX0_leastUp 1 = .ok (.iload_n 1, 1) := by decide +kernel
theorem dX0_leastUp_2 : decode cX0_leastUp 2 = .ok (.invokevirtual 93, 3) := by decide +kernel
theorem dX0_leastUp_5 : decode cX0_leastUp 5 = .ok (.aload_n 0, 1) := by decide +kernel
theorem dX0_leastUp_6 : decode cX0_leastUp 6 = .ok (.iload_n 2, 1) := by decide +kernel
theorem dX0_leastUp_7 : decode cX0_leastUp 7 = .ok (.invokevirtual 97, 3) := by decide +kernel
theorem dX0_leastUp_10 : decode cX0_leastUp 10 = .ok (.ireturn, 1) := by decide +kernel
set_option maxRecDepth 20000 in
theorem ggX0_leastDown_X0_compareGuesses : GoodIn wsX0_leastDown wsX0_compareGuesses := goodIn_r _ [5, 6, 7, 8, 9, 10, 11, 12, 13, 14, 15, 16, 4, 17, 18, 19, 20, 21, 22, 23, 24, 25, 26, 27, 28, 29, 30, 31, 32, 33, 40, 41, 42, 43, 44, 45, 46, 47, 48, 49, 50, 51, 52, 53, 54, 55] (by decide +kernel) (by decide +kernel)
set_option maxRecDepth 20000 in
theorem gX0_leastDown_X0_compareGuesses : GoodIn wsX0_leastDown (wsV RX0 93 RX0 yX0_compareGuesses wsX0_compareGuesses) := goodIn_app (goodIn_of _ (by decide +kernel)) ggX0_leastDown_X0_compareGuesses
set_option maxRecDepth 20000 in
theorem ggX0_leastDown_X0_downLevel : GoodIn wsX0_leastDown wsX0_downLevel := goodIn_r _ [37, 12, 13, 6, 38, 26, 39, 40, 41, 42, 43, 44, 45, 46, 47, 48, 49, 50] (by decide +kernel) (by decide +kernel)
set_option maxRecDepth 20000 in
theorem gX0_leastDown_X0_downLevel : GoodIn wsX0_leastDown (wsV RX0 100 RX0 yX0_downLevel wsX0_downLevel) := goodIn_app (goodIn_of _ (by decide +kernel)) ggX0_leastDown_X0_downLevel
theorem dX0_leastDown_0 : decode cX0_leastDown 0 = .ok (.aload_n 0, 1) := by decide +kernel
theorem dX0_leastDown_1 : decode cX0_leastDown 1 = .ok (.iload_n 1, 1) := by decide +kernel
theorem dX0_leastDown_2 : decode cX0_leastDown 2 = .ok (.invokevirtual 93, 3) := by decide +kernel
theorem dX0_leastDown_5 : decode cX0_leastDown 5 = .ok (.aload_n 0, 1) := by decide +kernel
theorem dX0_leastDown_6 : decode cX0_leastDown 6 = .ok (.iload_n 2, 1) := by decide +kernel
theorem dX0_leastDown_7 : decode cX0_leastDown 7 = .ok (.invokevirtual 100, 3) := by decide +kernel
theorem dX0_leastDown_10 : decode cX0_leastDown 10 = .ok (.ireturn, 1) := by decide +kernel
set_option maxRecDepth 20000 in
theorem ggX0_compareGuesses_X0_clockOf : GoodIn wsX0_compareGuesses wsX0_clockOf := goodIn_r _ [13, 14, 30, 31, 32, 33, 34, 35, 36, 37, 38, 39, 40] (by decide +kernel) (by decide +kernel)
set_option maxRecDepth 20000 in
theorem gX0_compareGuesses_X0_clockOf : GoodIn wsX0_compareGuesses (wsV RX0 103 RX0 yX0_clockOf wsX0_clockOf) := goodIn_app (goodIn_of _ (by decide +kernel)) ggX0_compareGuesses_X0_clockOf
set_option maxRecDepth 20000 in
theorem ggX0_compareGuesses_X1_neighbourOf : GoodIn wsX0_compareGuesses wsX1_neighbourOf := goodIn_r _ [19, 20, 21, 22, 23, 41, 42, 43, 44, 45] (by decide +kernel) (by decide +kernel)
set_option maxRecDepth 20000 in
theorem gX0_compareGuesses_X1_neighbourOf : GoodIn wsX0_compareGuesses (wsV RX0 109 RX1 yX1_neighbourOf wsX1_neighbourOf) := goodIn_app (goodIn_of _ (by decide +kernel)) ggX0_compareGuesses_X1_neighbourOf
set_option maxRecDepth 20000 in
theorem ggX0_compareGuesses_X0_guess : GoodIn wsX0_compareGuesses wsX0_guess := goodIn_r _ [27, 28, 14, 29, 21, 22, 23, 30, 31, 32, 33, 34, 35, 36, 37, 38, 39, 40] (by decide +kernel) (by decide +kernel)
set_option maxRecDepth 20000 in
theorem gX0_compareGuesses_X0_guess : GoodIn wsX0_compareGuesses (wsV RX0 112 RX0 yX0_guess wsX0_guess) := goodIn_app (goodIn_of _ (by decide +kernel)) ggX0_compareGuesses_X0_guess
theorem dX0_compareGuesses_0 : decode cX0_compareGuesses 0 = .ok (.ldc 37, 2) := by decide +kernel
theorem dX0_compareGuesses_2 : decode cX0_compareGuesses 2 = .ok (.istore_n 2, 1) := by decide +kernel
theorem dX0_compareGuesses_3 : decode cX0_compareGuesses 3 = .ok (.ldc 37, 2) := by decide +kernel
theorem dX0_compareGuesses_5 : decode cX0_compareGuesses 5 = .ok (.istore_n 3, 1) := by decide +kernel
theorem dX0_compareGuesses_6 : decode cX0_compareGuesses 6 = .ok (.aload_n 0, 1) := by decide +kernel
theorem dX0_compareGuesses_7 : decode cX0_compareGuesses 7 = .ok (.iload_n 1, 1) := by decide +kernel
theorem dX0_compareGuesses_8 : decode cX0_compareGuesses 8 = .ok (.invokevirtual 103, 3) := by decide +kernel
theorem dX0_compareGuesses_11 : decode cX0_compareGuesses 11 = .ok (.istore 4, 2) := by decide +kernel
theorem dX0_compareGuesses_13 : decode cX0_compareGuesses 13 = .ok (.aload_n 0, 1) := by decide +kernel
theorem dX0_compareGuesses_14 : decode cX0_compareGuesses 14 = .ok (.getfield 44, 3) := by decide +kernel
theorem dX0_compareGuesses_17 : decode cX0_compareGuesses 17 = .ok (.getfield 106, 3) := by decide +kernel
theorem dX0_compareGuesses_20 : decode cX0_compareGuesses 20 = .ok (.iload_n 1, 1) := by decide +kernel
theorem dX0_compareGuesses_21 : decode cX0_compareGuesses 21 = .ok (.iaload, 1) := by decide +kernel
theorem dX0_compareGuesses_22 : decode cX0_compareGuesses 22 = .ok (.istore 5, 2) := by decide +kernel
theorem dX0_compareGuesses_24 : decode cX0_compareGuesses 24 = .ok (.iconst 0, 1) := by decide +kernel
theorem dX0_compareGuesses_25 : decode cX0_compareGuesses 25 = .ok (.istore 6, 2) := by decide +kernel
theorem dX0_compareGuesses_27 : decode cX0_compareGuesses 27 = .ok (.iload 6, 2) := by decide +kernel
theorem dX0_compareGuesses_29 : decode cX0_compareGuesses 29 = .ok (.iload 5, 2) := by decide +kernel
theorem dX0_compareGuesses_31 : decode cX0_compareGuesses 31 = .ok (.if_icmp .ge 44, 3) := by decide +kernel
theorem dX0_compareGuesses_34 : decode cX0_compareGuesses 34 = .ok (.aload_n 0, 1) := by decide +kernel
theorem dX0_compareGuesses_35 : decode cX0_compareGuesses 35 = .ok (.iload_n 1, 1) := by decide +kernel
theorem dX0_compareGuesses_36 : decode cX0_compareGuesses 36 = .ok (.aload_n 0, 1) := by decide +kernel
theorem dX0_compareGuesses_37 : decode cX0_compareGuesses 37 = .ok (.getfield 44, 3) := by decide +kernel
theorem dX0_compareGuesses_40 : decode cX0_compareGuesses 40 = .ok (.iload_n 1, 1) := by decide +kernel
theorem dX0_compareGuesses_41 : decode cX0_compareGuesses 41 = .ok (.iload 6, 2) := by decide +kernel
theorem dX0_compareGuesses_43 : decode cX0_compareGuesses 43 = .ok (.invokevirtual 109, 3) := by decide +kernel
theorem dX0_compareGuesses_46 : decode cX0_compareGuesses 46 = .ok (.invokevirtual 112, 3) := by decide +kernel
theorem dX0_compareGuesses_49 : decode cX0_compareGuesses 49 = .ok (.iload 4, 2) := by decide +kernel
theorem dX0_compareGuesses_51 : decode cX0_compareGuesses 51 = .ok (.isub, 1) := by decide +kernel
theorem dX0_compareGuesses_52 : decode cX0_compareGuesses 52 = .ok (.istore 7, 2) := by decide +kernel
theorem dX0_compareGuesses_54 : decode cX0_compareGuesses 54 = .ok (.iload_n 2, 1) := by decide +kernel
theorem dX0_compareGuesses_55 : decode cX0_compareGuesses 55 = .ok (.iload 7, 2) := by decide +kernel
theorem dX0_compareGuesses_57 : decode cX0_compareGuesses 57 = .ok (.invokestatic 115, 3) := by decide +kernel
theorem dX0_compareGuesses_60 : decode cX0_compareGuesses 60 = .ok (.istore_n 2, 1) := by decide +kernel
theorem dX0_compareGuesses_61 : decode cX0_compareGuesses 61 = .ok (.iload_n 3, 1) := by decide +kernel
theorem dX0_compareGuesses_62 : decode cX0_compareGuesses 62 = .ok (.iload 7, 2) := by decide +kernel
theorem dX0_compareGuesses_64 : decode cX0_compareGuesses 64 = .ok (.ineg, 1) := by decide +kernel
theorem dX0_compareGuesses_65 : decode cX0_compareGuesses 65 = .ok (.invokestatic 115, 3) := by decide +kernel
theorem dX0_compareGuesses_68 : decode cX0_compareGuesses 68 = .ok (.istore_n 3, 1) := by decide +kernel
theorem dX0_compareGuesses_69 : decode cX0_compareGuesses 69 = .ok (.iinc 6 1, 3) := by decide +kernel
theorem dX0_compareGuesses_72 : decode cX0_compareGuesses 72 = .ok (.goto (-45), 3) := by decide +kernel
theorem dX0_compareGuesses_75 : decode cX0_compareGuesses 75 = .ok (.aload_n 0, 1) := by decide +kernel
theorem dX0_compareGuesses_76 : decode cX0_compareGuesses 76 = .ok (.iload_n 2, 1) := by decide +kernel
theorem dX0_compareGuesses_77 : decode cX0_compareGuesses 77 = .ok (.putfield 38, 3) := by decide +kernel
theorem dX0_compareGuesses_80 : decode cX0_compareGuesses 80 = .ok (.aload_n 0, 1) := by decide +kernel
theorem dX0_compareGuesses_81 : decode cX0_compareGuesses 81 = .ok (.iload_n 3, 1) := by decide +kernel
theorem dX0_compareGuesses_82 : decode cX0_compareGuesses 82 = .ok (.putfield 41, 3) := by decide +kernel
theorem dX0_compareGuesses_85 : decode cX0_compareGuesses 85 = .ok (.return_, 1) := by decide +kernel
set_option maxRecDepth 20000 in
theorem ggX0_upLevel_X3_levelReaching : GoodIn wsX0_upLevel wsX3_levelReaching := goodIn_r _ [6, 7, 8, 5, 9] (by decide +kernel) (by decide +kernel)
set_option maxRecDepth 20000 in
theorem gX0_upLevel_X3_levelReaching_n120 : GoodIn wsX0_upLevel (wsX3_levelReaching) := ggX0_upLevel_X3_levelReaching
theorem dX0_upLevel_0 : decode cX0_upLevel 0 = .ok (.aload_n 0, 1) := by decide +kernel
theorem dX0_upLevel_1 : decode cX0_upLevel 1 = .ok (.getfield 41, 3) := by decide +kernel
theorem dX0_upLevel_4 : decode cX0_upLevel 4 = .ok (.iload_n 1, 1) := by decide +kernel
theorem dX0_upLevel_5 : decode cX0_upLevel 5 = .ok (.invokestatic 120, 3) := by decide +kernel
theorem dX0_upLevel_8 : decode cX0_upLevel 8 = .ok (.istore_n 2, 1) := by decide +kernel
theorem dX0_upLevel_9 : decode cX0_upLevel 9 = .ok (.aload_n 0, 1) := by decide +kernel
theorem dX0_upLevel_10 : decode cX0_upLevel 10 = .ok (.getfield 38, 3) := by decide +kernel
theorem dX0_upLevel_13 : decode cX0_upLevel 13 = .ok (.iconst 2, 1) := by decide +kernel
theorem dX0_upLevel_14 : decode cX0_upLevel 14 = .ok (.iload_n 2, 1) := by decide +kernel
theorem dX0_upLevel_15 : decode cX0_upLevel 15 = .ok (.imul, 1) := by decide +kernel
theorem dX0_upLevel_16 : decode cX0_upLevel 16 = .ok (.iconst 1, 1) := by decide +kernel
theorem dX0_upLevel_17 : decode cX0_upLevel 17 = .ok (.iadd, 1) := by decide +kernel
theorem dX0_upLevel_18 : decode cX0_upLevel 18 = .ok (.iload_n 1, 1) := by decide +kernel
theorem dX0_upLevel_19 : decode cX0_upLevel 19 = .ok (.imul, 1) := by decide +kernel
theorem dX0_upLevel_20 : decode cX0_upLevel 20 = .ok (.if_icmp .lt 7, 3) := by decide +kernel
theorem dX0_upLevel_23 : decode cX0_upLevel 23 = .ok (.iload_n 2, 1) := by decide +kernel
theorem dX0_upLevel_24 : decode cX0_upLevel 24 = .ok (.goto 5, 3) := by decide +kernel
theorem dX0_upLevel_27 : decode cX0_upLevel 27 = .ok (.ldc 37, 2) := by decide +kernel
theorem dX0_upLevel_29 : decode cX0_upLevel 29 = .ok (.ireturn, 1) := by decide +kernel
set_option maxRecDepth 20000 in
theorem ggX0_downLevel_X3_dividedUp : GoodIn wsX0_downLevel wsX3_dividedUp := goodIn_r _ [6] (by decide +kernel) (by decide +kernel)
set_option maxRecDepth 20000 in
theorem gX0_downLevel_X3_dividedUp_n123 : GoodIn wsX0_downLevel (wsX3_dividedUp) := ggX0_downLevel_X3_dividedUp
theorem dX0_downLevel_0 : decode cX0_downLevel 0 = .ok (.aload_n 0, 1) := by decide +kernel
theorem dX0_downLevel_1 : decode cX0_downLevel 1 = .ok (.getfield 38, 3) := by decide +kernel
theorem dX0_downLevel_4 : decode cX0_downLevel 4 = .ok (.iconst 2, 1) := by decide +kernel
theorem dX0_downLevel_5 : decode cX0_downLevel 5 = .ok (.iload_n 1, 1) := by decide +kernel
theorem dX0_downLevel_6 : decode cX0_downLevel 6 = .ok (.imul, 1) := by decide +kernel
theorem dX0_downLevel_7 : decode cX0_downLevel 7 = .ok (.if_icmp .gt 7, 3) := by decide +kernel
theorem dX0_downLevel_10 : decode cX0_downLevel 10 = .ok (.iconst 1, 1) := by decide +kernel
theorem dX0_downLevel_11 : decode cX0_downLevel 11 = .ok (.goto 13, 3) := by decide +kernel
theorem dX0_downLevel_14 : decode cX0_downLevel 14 = .ok (.aload_n 0, 1) := by decide +kernel
theorem dX0_downLevel_15 : decode cX0_downLevel 15 = .ok (.getfield 38, 3) := by decide +kernel
theorem dX0_downLevel_18 : decode cX0_downLevel 18 = .ok (.iconst 2, 1) := by decide +kernel
theorem dX0_downLevel_19 : decode cX0_downLevel 19 = .ok (.iload_n 1, 1) := by decide +kernel
theorem dX0_downLevel_20 : decode cX0_downLevel 20 = .ok (.imul, 1) := by decide +kernel
theorem dX0_downLevel_21 : decode cX0_downLevel 21 = .ok (.invokestatic 123, 3) := by decide +kernel
theorem dX0_downLevel_24 : decode cX0_downLevel 24 = .ok (.istore_n 2, 1) := by decide +kernel
theorem dX0_downLevel_25 : decode cX0_downLevel 25 = .ok (.aload_n 0, 1) := by decide +kernel
theorem dX0_downLevel_26 : decode cX0_downLevel 26 = .ok (.getfield 41, 3) := by decide +kernel
theorem dX0_downLevel_29 : decode cX0_downLevel 29 = .ok (.iconst 2, 1) := by decide +kernel
theorem dX0_downLevel_30 : decode cX0_downLevel 30 = .ok (.iload_n 2, 1) := by decide +kernel
theorem dX0_downLevel_31 : decode cX0_downLevel 31 = .ok (.imul, 1) := by decide +kernel
theorem dX0_downLevel_32 : decode cX0_downLevel 32 = .ok (.iload_n 1, 1) := by decide +kernel
theorem dX0_downLevel_33 : decode cX0_downLevel 33 = .ok (.imul, 1) := by decide +kernel
theorem dX0_downLevel_34 : decode cX0_downLevel 34 = .ok (.if_icmp .lt 7, 3) := by decide +kernel
theorem dX0_downLevel_37 : decode cX0_downLevel 37 = .ok (.iload_n 2, 1) := by decide +kernel
theorem dX0_downLevel_38 : decode cX0_downLevel 38 = .ok (.goto 5, 3) := by decide +kernel
theorem dX0_downLevel_41 : decode cX0_downLevel 41 = .ok (.ldc 37, 2) := by decide +kernel
theorem dX0_downLevel_43 : decode cX0_downLevel 43 = .ok (.ireturn, 1) := by decide +kernel
set_option maxRecDepth 20000 in
theorem ggX0_tick_X0_move : GoodIn wsX0_tick wsX0_move := goodIn_r _ [14, 1, 15, 3, 16, 17, 18, 19, 20, 21, 22, 23, 24, 13, 25, 6, 7, 8, 9, 26, 27, 28, 29, 30, 31, 32, 33, 34, 35, 36, 37, 38, 39, 40, 41, 42, 43, 44, 45, 46, 47, 48, 49, 50, 51, 52, 53, 54, 55, 56, 57, 58, 59, 81, 82, 83, 84, 85, 86, 87, 88, 89, 90, 91, 92, 93, 94, 95, 96] (by decide +kernel) (by decide +kernel)
set_option maxRecDepth 20000 in
theorem gX0_tick_X0_move : GoodIn wsX0_tick (wsV RX0 126 RX0 yX0_move wsX0_move) := goodIn_app (goodIn_of _ (by decide +kernel)) ggX0_tick_X0_move
set_option maxRecDepth 20000 in
theorem ggX0_tick_X0_localSkew : GoodIn wsX0_tick wsX0_localSkew := goodIn_r _ [63, 64, 65, 66, 13, 67, 15, 1, 6, 7, 8, 9, 68, 69, 70, 35, 71, 72, 73, 38, 39, 40, 74, 75, 76, 77, 78, 79, 80, 28, 29, 30, 31, 16, 81, 82, 83, 84, 85, 86, 87, 88, 89, 90, 91, 92, 93, 94, 95, 96] (by decide +kernel) (by decide +kernel)
set_option maxRecDepth 20000 in
theorem gX0_tick_X0_localSkew : GoodIn wsX0_tick (wsV RX0 130 RX0 yX0_localSkew wsX0_localSkew) := goodIn_app (goodIn_of _ (by decide +kernel)) ggX0_tick_X0_localSkew
theorem dX0_tick_0 : decode cX0_tick 0 = .ok (.aload_n 0, 1) := by decide +kernel
theorem dX0_tick_1 : decode cX0_tick 1 = .ok (.iload_n 1, 1) := by decide +kernel
theorem dX0_tick_2 : decode cX0_tick 2 = .ok (.iload_n 2, 1) := by decide +kernel
theorem dX0_tick_3 : decode cX0_tick 3 = .ok (.invokevirtual 126, 3) := by decide +kernel
theorem dX0_tick_6 : decode cX0_tick 6 = .ok (.iconst 0, 1) := by decide +kernel
theorem dX0_tick_7 : decode cX0_tick 7 = .ok (.istore_n 3, 1) := by decide +kernel
theorem dX0_tick_8 : decode cX0_tick 8 = .ok (.iload_n 3, 1) := by decide +kernel
theorem dX0_tick_9 : decode cX0_tick 9 = .ok (.aload_n 0, 1) := by decide +kernel
theorem dX0_tick_10 : decode cX0_tick 10 = .ok (.getfield 44, 3) := by decide +kernel
theorem dX0_tick_13 : decode cX0_tick 13 = .ok (.getfield 82, 3) := by decide +kernel
theorem dX0_tick_16 : decode cX0_tick 16 = .ok (.if_icmp .ge 24, 3) := by decide +kernel
theorem dX0_tick_19 : decode cX0_tick 19 = .ok (.aload_n 0, 1) := by decide +kernel
theorem dX0_tick_20 : decode cX0_tick 20 = .ok (.getfield 21, 3) := by decide +kernel
theorem dX0_tick_23 : decode cX0_tick 23 = .ok (.iload_n 3, 1) := by decide +kernel
theorem dX0_tick_24 : decode cX0_tick 24 = .ok (.dup2, 1) := by decide +kernel
theorem dX0_tick_25 : decode cX0_tick 25 = .ok (.iaload, 1) := by decide +kernel
theorem dX0_tick_26 : decode cX0_tick 26 = .ok (.aload_n 0, 1) := by decide +kernel
theorem dX0_tick_27 : decode cX0_tick 27 = .ok (.getfield 18, 3) := by decide +kernel
theorem dX0_tick_30 : decode cX0_tick 30 = .ok (.iload_n 3, 1) := by decide +kernel
theorem dX0_tick_31 : decode cX0_tick 31 = .ok (.iaload, 1) := by decide +kernel
theorem dX0_tick_32 : decode cX0_tick 32 = .ok (.iadd, 1) := by decide +kernel
theorem dX0_tick_33 : decode cX0_tick 33 = .ok (.iastore, 1) := by decide +kernel
theorem dX0_tick_34 : decode cX0_tick 34 = .ok (.iinc 3 1, 3) := by decide +kernel
theorem dX0_tick_37 : decode cX0_tick 37 = .ok (.goto (-29), 3) := by decide +kernel
theorem dX0_tick_40 : decode cX0_tick 40 = .ok (.aload_n 0, 1) := by decide +kernel
theorem dX0_tick_41 : decode cX0_tick 41 = .ok (.dup, 1) := by decide +kernel
theorem dX0_tick_42 : decode cX0_tick 42 = .ok (.getfield 30, 3) := by decide +kernel
theorem dX0_tick_45 : decode cX0_tick 45 = .ok (.iconst 1, 1) := by decide +kernel
theorem dX0_tick_46 : decode cX0_tick 46 = .ok (.iadd, 1) := by decide +kernel
theorem dX0_tick_47 : decode cX0_tick 47 = .ok (.putfield 30, 3) := by decide +kernel
theorem dX0_tick_50 : decode cX0_tick 50 = .ok (.aload_n 0, 1) := by decide +kernel
theorem dX0_tick_51 : decode cX0_tick 51 = .ok (.aload_n 0, 1) := by decide +kernel
theorem dX0_tick_52 : decode cX0_tick 52 = .ok (.getfield 34, 3) := by decide +kernel
theorem dX0_tick_55 : decode cX0_tick 55 = .ok (.aload_n 0, 1) := by decide +kernel
theorem dX0_tick_56 : decode cX0_tick 56 = .ok (.invokevirtual 130, 3) := by decide +kernel
theorem dX0_tick_59 : decode cX0_tick 59 = .ok (.invokestatic 115, 3) := by decide +kernel
theorem dX0_tick_62 : decode cX0_tick 62 = .ok (.putfield 34, 3) := by decide +kernel
theorem dX0_tick_65 : decode cX0_tick 65 = .ok (.return_, 1) := by decide +kernel
set_option maxRecDepth 20000 in
theorem ggX0_move_X0_compareGuesses : GoodIn wsX0_move wsX0_compareGuesses := goodIn_r _ [14, 2, 1, 15, 16, 17, 18, 19, 20, 21, 22, 23, 13, 24, 4, 25, 26, 27, 28, 29, 30, 31, 32, 33, 34, 35, 36, 37, 38, 39, 53, 54, 55, 56, 57, 58, 59, 60, 61, 62, 63, 64, 65, 66, 67, 68] (by decide +kernel) (by decide +kernel)
set_option maxRecDepth 20000 in
theorem gX0_move_X0_compareGuesses : GoodIn wsX0_move (wsV RX0 93 RX0 yX0_compareGuesses wsX0_compareGuesses) := goodIn_app (goodIn_of _ (by decide +kernel)) ggX0_move_X0_compareGuesses
set_option maxRecDepth 20000 in
theorem ggX0_move_X0_upLevel : GoodIn wsX0_move wsX0_upLevel := goodIn_r _ [43, 20, 19, 2, 44, 32, 45, 46, 47, 48, 53, 54, 55, 56, 57, 58, 59, 60, 61, 62, 63] (by decide +kernel) (by decide +kernel)
set_option maxRecDepth 20000 in
theorem gX0_move_X0_upLevel : GoodIn wsX0_move (wsV RX0 97 RX0 yX0_upLevel wsX0_upLevel) := goodIn_app (goodIn_of _ (by decide +kernel)) ggX0_move_X0_upLevel
set_option maxRecDepth 20000 in
theorem ggX0_move_X0_downLevel : GoodIn wsX0_move wsX0_downLevel := goodIn_r _ [52, 19, 20, 2, 47, 32, 48, 53, 54, 55, 56, 57, 58, 59, 60, 61, 62, 63] (by decide +kernel) (by decide +kernel)
set_option maxRecDepth 20000 in
theorem gX0_move_X0_downLevel : GoodIn wsX0_move (wsV RX0 100 RX0 yX0_downLevel wsX0_downLevel) := goodIn_app (goodIn_of _ (by decide +kernel)) ggX0_move_X0_downLevel
theorem dX0_move_0 : decode cX0_move 0 = .ok (.iconst 0, 1) := by decide +kernel
theorem dX0_move_1 : decode cX0_move 1 = .ok (.istore_n 3, 1) := by decide +kernel
theorem dX0_move_2 : decode cX0_move 2 = .ok (.iload_n 3, 1) := by decide +kernel
theorem dX0_move_3 : decode cX0_move 3 = .ok (.aload_n 0, 1) := by decide +kernel
theorem dX0_move_4 : decode cX0_move 4 = .ok (.getfield 44, 3) := by decide +kernel
theorem dX0_move_7 : decode cX0_move 7 = .ok (.getfield 82, 3) := by decide +kernel
theorem dX0_move_10 : decode cX0_move 10 = .ok (.if_icmp .ge 51, 3) := by decide +kernel
theorem dX0_move_13 : decode cX0_move 13 = .ok (.aload_n 0, 1) := by decide +kernel
theorem dX0_move_14 : decode cX0_move 14 = .ok (.iload_n 3, 1) := by decide +kernel
theorem dX0_move_15 : decode cX0_move 15 = .ok (.invokevirtual 93, 3) := by decide +kernel
theorem dX0_move_18 : decode cX0_move 18 = .ok (.aload_n 0, 1) := by decide +kernel
theorem dX0_move_19 : decode cX0_move 19 = .ok (.iload_n 1, 1) := by decide +kernel
theorem dX0_move_20 : decode cX0_move 20 = .ok (.invokevirtual 97, 3) := by decide +kernel
theorem dX0_move_23 : decode cX0_move 23 = .ok (.ldc 37, 2) := by decide +kernel
theorem dX0_move_25 : decode cX0_move 25 = .ok (.if_icmp .eq 13, 3) := by decide +kernel
theorem dX0_move_28 : decode cX0_move 28 = .ok (.aload_n 0, 1) := by decide +kernel
theorem dX0_move_29 : decode cX0_move 29 = .ok (.getfield 18, 3) := by decide +kernel
theorem dX0_move_32 : decode cX0_move 32 = .ok (.iload_n 3, 1) := by decide +kernel
theorem dX0_move_33 : decode cX0_move 33 = .ok (.iconst 1, 1) := by decide +kernel
theorem dX0_move_34 : decode cX0_move 34 = .ok (.iastore, 1) := by decide +kernel
theorem dX0_move_35 : decode cX0_move 35 = .ok (.goto 20, 3) := by decide +kernel
theorem dX0_move_38 : decode cX0_move 38 = .ok (.aload_n 0, 1) := by decide +kernel
theorem dX0_move_39 : decode cX0_move 39 = .ok (.iload_n 1, 1) := by decide +kernel
theorem dX0_move_40 : decode cX0_move 40 = .ok (.invokevirtual 100, 3) := by decide +kernel
theorem dX0_move_43 : decode cX0_move 43 = .ok (.ldc 37, 2) := by decide +kernel
theorem dX0_move_45 : decode cX0_move 45 = .ok (.if_icmp .eq 10, 3) := by decide +kernel
theorem dX0_move_48 : decode cX0_move 48 = .ok (.aload_n 0, 1) := by decide +kernel
theorem dX0_move_49 : decode cX0_move 49 = .ok (.getfield 18, 3) := by decide +kernel
theorem dX0_move_52 : decode cX0_move 52 = .ok (.iload_n 3, 1) := by decide +kernel
theorem dX0_move_53 : decode cX0_move 53 = .ok (.iconst 0, 1) := by decide +kernel
theorem dX0_move_54 : decode cX0_move 54 = .ok (.iastore, 1) := by decide +kernel
theorem dX0_move_55 : decode cX0_move 55 = .ok (.iinc 3 1, 3) := by decide +kernel
theorem dX0_move_58 : decode cX0_move 58 = .ok (.goto (-56), 3) := by decide +kernel
theorem dX0_move_61 : decode cX0_move 61 = .ok (.aload_n 0, 1) := by decide +kernel
theorem dX0_move_62 : decode cX0_move 62 = .ok (.getfield 9, 3) := by decide +kernel
theorem dX0_move_65 : decode cX0_move 65 = .ok (.iconst 0, 1) := by decide +kernel
theorem dX0_move_66 : decode cX0_move 66 = .ok (.aload_n 0, 1) := by decide +kernel
theorem dX0_move_67 : decode cX0_move 67 = .ok (.getfield 9, 3) := by decide +kernel
theorem dX0_move_70 : decode cX0_move 70 = .ok (.bipush 6, 2) := by decide +kernel
theorem dX0_move_72 : decode cX0_move 72 = .ok (.bipush 18, 2) := by decide +kernel
theorem dX0_move_74 : decode cX0_move 74 = .ok (.invokestatic 76, 3) := by decide +kernel
theorem dX0_move_77 : decode cX0_move 77 = .ok (.iconst 0, 1) := by decide +kernel
theorem dX0_move_78 : decode cX0_move 78 = .ok (.istore_n 3, 1) := by decide +kernel
theorem dX0_move_79 : decode cX0_move 79 = .ok (.iload_n 3, 1) := by decide +kernel
theorem dX0_move_80 : decode cX0_move 80 = .ok (.aload_n 0, 1) := by decide +kernel
theorem dX0_move_81 : decode cX0_move 81 = .ok (.getfield 44, 3) := by decide +kernel
theorem dX0_move_84 : decode cX0_move 84 = .ok (.getfield 82, 3) := by decide +kernel
theorem dX0_move_87 : decode cX0_move 87 = .ok (.if_icmp .ge 33, 3) := by decide +kernel
theorem dX0_move_90 : decode cX0_move 90 = .ok (.aload_n 0, 1) := by decide +kernel
theorem dX0_move_91 : decode cX0_move 91 = .ok (.getfield 9, 3) := by decide +kernel
theorem dX0_move_94 : decode cX0_move 94 = .ok (.iload_n 3, 1) := by decide +kernel
theorem dX0_move_95 : decode cX0_move 95 = .ok (.dup2, 1) := by decide +kernel
theorem dX0_move_96 : decode cX0_move 96 = .ok (.iaload, 1) := by decide +kernel
theorem dX0_move_97 : decode cX0_move 97 = .ok (.aload_n 0, 1) := by decide +kernel
theorem dX0_move_98 : decode cX0_move 98 = .ok (.getfield 15, 3) := by decide +kernel
theorem dX0_move_101 : decode cX0_move 101 = .ok (.iload_n 3, 1) := by decide +kernel
theorem dX0_move_102 : decode cX0_move 102 = .ok (.iaload, 1) := by decide +kernel
theorem dX0_move_103 : decode cX0_move 103 = .ok (.aload_n 0, 1) := by decide +kernel
theorem dX0_move_104 : decode cX0_move 104 = .ok (.getfield 18, 3) := by decide +kernel
theorem dX0_move_107 : decode cX0_move 107 = .ok (.iload_n 3, 1) := by decide +kernel
theorem dX0_move_108 : decode cX0_move 108 = .ok (.iaload, 1) := by decide +kernel
theorem dX0_move_109 : decode cX0_move 109 = .ok (.iload_n 2, 1) := by decide +kernel
theorem dX0_move_110 : decode cX0_move 110 = .ok (.imul, 1) := by decide +kernel
theorem dX0_move_111 : decode cX0_move 111 = .ok (.iadd, 1) := by decide +kernel
theorem dX0_move_112 : decode cX0_move 112 = .ok (.iadd, 1) := by decide +kernel
theorem dX0_move_113 : decode cX0_move 113 = .ok (.iastore, 1) := by decide +kernel
theorem dX0_move_114 : decode cX0_move 114 = .ok (.iinc 3 1, 3) := by decide +kernel
theorem dX0_move_117 : decode cX0_move 117 = .ok (.goto (-38), 3) := by decide +kernel
theorem dX0_move_120 : decode cX0_move 120 = .ok (.return_, 1) := by decide +kernel
set_option maxRecDepth 20000 in
theorem ggX0_skewOf_X0_clockOf : GoodIn wsX0_skewOf wsX0_clockOf := goodIn_r _ [9, 10, 11, 12, 13, 14, 15, 16, 17, 18, 19, 20, 21] (by decide +kernel) (by decide +kernel)
set_option maxRecDepth 20000 in
theorem gX0_skewOf_X0_clockOf : GoodIn wsX0_skewOf (wsV RX0 103 RX0 yX0_clockOf wsX0_clockOf) := goodIn_app (goodIn_of _ (by decide +kernel)) ggX0_skewOf_X0_clockOf
theorem dX0_skewOf_0 : decode cX0_skewOf 0 = .ok (.aload_n 0, 1) := by decide +kernel
theorem dX0_skewOf_1 : decode cX0_skewOf 1 = .ok (.iload_n 1, 1) := by decide +kernel
theorem dX0_skewOf_2 : decode cX0_skewOf 2 = .ok (.invokevirtual 103, 3) := by decide +kernel
theorem dX0_skewOf_5 : decode cX0_skewOf 5 = .ok (.aload_n 0, 1) := by decide +kernel
theorem dX0_skewOf_6 : decode cX0_skewOf 6 = .ok (.iload_n 2, 1) := by decide +kernel
theorem dX0_skewOf_7 : decode cX0_skewOf 7 = .ok (.invokevirtual 103, 3) := by decide +kernel
theorem dX0_skewOf_10 : decode cX0_skewOf 10 = .ok (.isub, 1) := by decide +kernel
theorem dX0_skewOf_11 : decode cX0_skewOf 11 = .ok (.invokestatic 134, 3) := by decide +kernel
theorem dX0_skewOf_14 : decode cX0_skewOf 14 = .ok (.ireturn, 1) := by decide +kernel
set_option maxRecDepth 20000 in
theorem ggX0_localSkew_X0_skewByHops : GoodIn wsX0_localSkew wsX0_skewByHops := goodIn_r _ [5, 6, 7, 8, 9, 10, 11, 12, 13, 14, 15, 16, 17, 18, 19, 20, 21, 22, 23, 24, 4, 25, 26, 27, 28, 29, 30, 31, 32, 33, 34, 35, 36, 37, 38, 39, 40, 41, 42, 43, 44, 45, 46, 47, 48, 49] (by decide +kernel) (by decide +kernel)
set_option maxRecDepth 20000 in
theorem gX0_localSkew_X0_skewByHops : GoodIn wsX0_localSkew (wsV RX0 137 RX0 yX0_skewByHops wsX0_skewByHops) := goodIn_app (goodIn_of _ (by decide +kernel)) ggX0_localSkew_X0_skewByHops
theorem dX0_localSkew_0 : decode cX0_localSkew 0 = .ok (.aload_n 0, 1) := by decide +kernel
theorem dX0_localSkew_1 : decode cX0_localSkew 1 = .ok (.iconst 1, 1) := by decide +kernel
theorem dX0_localSkew_2 : decode cX0_localSkew 2 = .ok (.invokevirtual 137, 3) := by decide +kernel
theorem dX0_localSkew_5 : decode cX0_localSkew 5 = .ok (.ireturn, 1) := by decide +kernel
set_option maxRecDepth 20000 in
theorem ggX0_globalSkew_X0_skewOf : GoodIn wsX0_globalSkew wsX0_skewOf := goodIn_r _ [10, 11, 12, 4, 13, 14, 15, 16, 9, 17, 18, 19, 20, 21, 22, 23, 24, 25, 26, 27, 28, 29] (by decide +kernel) (by decide +kernel)
set_option maxRecDepth 20000 in
theorem gX0_globalSkew_X0_skewOf : GoodIn wsX0_globalSkew (wsV RX0 140 RX0 yX0_skewOf wsX0_skewOf) := goodIn_app (goodIn_of _ (by decide +kernel)) ggX0_globalSkew_X0_skewOf
theorem dX0_globalSkew_0 : decode cX0_globalSkew 0 = .ok (.iconst 0, 1) := by decide +kernel
theorem dX0_globalSkew_1 : decode cX0_globalSkew 1 = .ok (.istore_n 1, 1) := by decide +kernel
theorem dX0_globalSkew_2 : decode cX0_globalSkew 2 = .ok (.iconst 0, 1) := by decide +kernel
theorem dX0_globalSkew_3 : decode cX0_globalSkew 3 = .ok (.istore_n 2, 1) := by decide +kernel
theorem dX0_globalSkew_4 : decode cX0_globalSkew 4 = .ok (.iload_n 2, 1) := by decide +kernel
theorem dX0_globalSkew_5 : decode cX0_globalSkew 5 = .ok (.aload_n 0, 1) := by decide +kernel
theorem dX0_globalSkew_6 : decode cX0_globalSkew 6 = .ok (.getfield 44, 3) := by decide +kernel
theorem dX0_globalSkew_9 : decode cX0_globalSkew 9 = .ok (.getfield 82, 3) := by decide +kernel
theorem dX0_globalSkew_12 : decode cX0_globalSkew 12 = .ok (.if_icmp .ge 41, 3) := by decide +kernel
theorem dX0_globalSkew_15 : decode cX0_globalSkew 15 = .ok (.iload_n 2, 1) := by decide +kernel
theorem dX0_globalSkew_16 : decode cX0_globalSkew 16 = .ok (.iconst 1, 1) := by decide +kernel
theorem dX0_globalSkew_17 : decode cX0_globalSkew 17 = .ok (.iadd, 1) := by decide +kernel
theorem dX0_globalSkew_18 : decode cX0_globalSkew 18 = .ok (.istore_n 3, 1) := by decide +kernel
theorem dX0_globalSkew_19 : decode cX0_globalSkew 19 = .ok (.iload_n 3, 1) := by decide +kernel
theorem dX0_globalSkew_20 : decode cX0_globalSkew 20 = .ok (.aload_n 0, 1) := by decide +kernel
theorem dX0_globalSkew_21 : decode cX0_globalSkew 21 = .ok (.getfield 44, 3) := by decide +kernel
theorem dX0_globalSkew_24 : decode cX0_globalSkew 24 = .ok (.getfield 82, 3) := by decide +kernel
theorem dX0_globalSkew_27 : decode cX0_globalSkew 27 = .ok (.if_icmp .ge 20, 3) := by decide +kernel
theorem dX0_globalSkew_30 : decode cX0_globalSkew 30 = .ok (.iload_n 1, 1) := by decide +kernel
theorem dX0_globalSkew_31 : decode cX0_globalSkew 31 = .ok (.aload_n 0, 1) := by decide +kernel
theorem dX0_globalSkew_32 : decode cX0_globalSkew 32 = .ok (.iload_n 2, 1) := by decide +kernel
theorem dX0_globalSkew_33 : decode cX0_globalSkew 33 = .ok (.iload_n 3, 1) := by decide +kernel
theorem dX0_globalSkew_34 : decode cX0_globalSkew 34 = .ok (.invokevirtual 140, 3) := by decide +kernel
theorem dX0_globalSkew_37 : decode cX0_globalSkew 37 = .ok (.invokestatic 115, 3) := by decide +kernel
theorem dX0_globalSkew_40 : decode cX0_globalSkew 40 = .ok (.istore_n 1, 1) := by decide +kernel
theorem dX0_globalSkew_41 : decode cX0_globalSkew 41 = .ok (.iinc 3 1, 3) := by decide +kernel
theorem dX0_globalSkew_44 : decode cX0_globalSkew 44 = .ok (.goto (-25), 3) := by decide +kernel
theorem dX0_globalSkew_47 : decode cX0_globalSkew 47 = .ok (.iinc 2 1, 3) := by decide +kernel
theorem dX0_globalSkew_50 : decode cX0_globalSkew 50 = .ok (.goto (-46), 3) := by decide +kernel
theorem dX0_globalSkew_53 : decode cX0_globalSkew 53 = .ok (.iload_n 1, 1) := by decide +kernel
theorem dX0_globalSkew_54 : decode cX0_globalSkew 54 = .ok (.ireturn, 1) := by decide +kernel
set_option maxRecDepth 20000 in
theorem ggX0_skewByHops_X1_hopsOf : GoodIn wsX0_skewByHops wsX1_hopsOf := goodIn_r _ [11, 12, 13, 14, 15, 16, 41, 42, 43, 44, 45] (by decide +kernel) (by decide +kernel)
set_option maxRecDepth 20000 in
theorem gX0_skewByHops_X1_hopsOf : GoodIn wsX0_skewByHops (wsV RX0 143 RX1 yX1_hopsOf wsX1_hopsOf) := goodIn_app (goodIn_of _ (by decide +kernel)) ggX0_skewByHops_X1_hopsOf
set_option maxRecDepth 20000 in
theorem ggX0_skewByHops_X0_skewOf : GoodIn wsX0_skewByHops wsX0_skewOf := goodIn_r _ [21, 22, 23, 5, 24, 25, 26, 27, 20, 28, 29, 30, 31, 32, 33, 34, 35, 36, 37, 38, 39, 40] (by decide +kernel) (by decide +kernel)
set_option maxRecDepth 20000 in
theorem gX0_skewByHops_X0_skewOf : GoodIn wsX0_skewByHops (wsV RX0 140 RX0 yX0_skewOf wsX0_skewOf) := goodIn_app (goodIn_of _ (by decide +kernel)) ggX0_skewByHops_X0_skewOf
theorem dX0_skewByHops_0 : decode cX0_skewByHops 0 = .ok (.ldc 37, 2) := by decide +kernel
theorem dX0_skewByHops_2 : decode cX0_skewByHops 2 = .ok (.istore_n 2, 1) := by decide +kernel
theorem dX0_skewByHops_3 : decode cX0_skewByHops 3 = .ok (.iconst 0, 1) := by decide +kernel
theorem dX0_skewByHops_4 : decode cX0_skewByHops 4 = .ok (.istore_n 3, 1) := by decide +kernel
theorem dX0_skewByHops_5 : decode cX0_skewByHops 5 = .ok (.iload_n 3, 1) := by decide +kernel
theorem dX0_skewByHops_6 : decode cX0_skewByHops 6 = .ok (.aload_n 0, 1) := by decide +kernel
theorem dX0_skewByHops_7 : decode cX0_skewByHops 7 = .ok (.getfield 44, 3) := by decide +kernel
theorem dX0_skewByHops_10 : decode cX0_skewByHops 10 = .ok (.getfield 82, 3) := by decide +kernel
theorem dX0_skewByHops_13 : decode cX0_skewByHops 13 = .ok (.if_icmp .ge 58, 3) := by decide +kernel
theorem dX0_skewByHops_16 : decode cX0_skewByHops 16 = .ok (.iload_n 3, 1) := by decide +kernel
theorem dX0_skewByHops_17 : decode cX0_skewByHops 17 = .ok (.iconst 1, 1) := by decide +kernel
theorem dX0_skewByHops_18 : decode cX0_skewByHops 18 = .ok (.iadd, 1) := by decide +kernel
theorem dX0_skewByHops_19 : decode cX0_skewByHops 19 = .ok (.istore 4, 2) := by decide +kernel
theorem dX0_skewByHops_21 : decode cX0_skewByHops 21 = .ok (.iload 4, 2) := by decide +kernel
theorem dX0_skewByHops_23 : decode cX0_skewByHops 23 = .ok (.aload_n 0, 1) := by decide +kernel
theorem dX0_skewByHops_24 : decode cX0_skewByHops 24 = .ok (.getfield 44, 3) := by decide +kernel
theorem dX0_skewByHops_27 : decode cX0_skewByHops 27 = .ok (.getfield 82, 3) := by decide +kernel
theorem dX0_skewByHops_30 : decode cX0_skewByHops 30 = .ok (.if_icmp .ge 35, 3) := by decide +kernel
theorem dX0_skewByHops_33 : decode cX0_skewByHops 33 = .ok (.aload_n 0, 1) := by decide +kernel
theorem dX0_skewByHops_34 : decode cX0_skewByHops 34 = .ok (.getfield 44, 3) := by decide +kernel
theorem dX0_skewByHops_37 : decode cX0_skewByHops 37 = .ok (.iload_n 3, 1) := by decide +kernel
theorem dX0_skewByHops_38 : decode cX0_skewByHops 38 = .ok (.iload 4, 2) := by decide +kernel
theorem dX0_skewByHops_40 : decode cX0_skewByHops 40 = .ok (.invokevirtual 143, 3) := by decide +kernel
theorem dX0_skewByHops_43 : decode cX0_skewByHops 43 = .ok (.iload_n 1, 1) := by decide +kernel
theorem dX0_skewByHops_44 : decode cX0_skewByHops 44 = .ok (.if_icmp .ne 15, 3) := by decide +kernel
theorem dX0_skewByHops_47 : decode cX0_skewByHops 47 = .ok (.iload_n 2, 1) := by decide +kernel
theorem dX0_skewByHops_48 : decode cX0_skewByHops 48 = .ok (.aload_n 0, 1) := by decide +kernel
theorem dX0_skewByHops_49 : decode cX0_skewByHops 49 = .ok (.iload_n 3, 1) := by decide +kernel
theorem dX0_skewByHops_50 : decode cX0_skewByHops 50 = .ok (.iload 4, 2) := by decide +kernel
theorem dX0_skewByHops_52 : decode cX0_skewByHops 52 = .ok (.invokevirtual 140, 3) := by decide +kernel
theorem dX0_skewByHops_55 : decode cX0_skewByHops 55 = .ok (.invokestatic 115, 3) := by decide +kernel
theorem dX0_skewByHops_58 : decode cX0_skewByHops 58 = .ok (.istore_n 2, 1) := by decide +kernel
theorem dX0_skewByHops_59 : decode cX0_skewByHops 59 = .ok (.iinc 4 1, 3) := by decide +kernel
theorem dX0_skewByHops_62 : decode cX0_skewByHops 62 = .ok (.goto (-41), 3) := by decide +kernel
theorem dX0_skewByHops_65 : decode cX0_skewByHops 65 = .ok (.iinc 3 1, 3) := by decide +kernel
theorem dX0_skewByHops_68 : decode cX0_skewByHops 68 = .ok (.goto (-63), 3) := by decide +kernel
theorem dX0_skewByHops_71 : decode cX0_skewByHops 71 = .ok (.iload_n 2, 1) := by decide +kernel
theorem dX0_skewByHops_72 : decode cX0_skewByHops 72 = .ok (.ireturn, 1) := by decide +kernel
theorem dX0_howManyFast_0 : decode cX0_howManyFast 0 = .ok (.iconst 0, 1) := by decide +kernel
theorem dX0_howManyFast_1 : decode cX0_howManyFast 1 = .ok (.istore_n 1, 1) := by decide +kernel
theorem dX0_howManyFast_2 : decode cX0_howManyFast 2 = .ok (.iconst 0, 1) := by decide +kernel
theorem dX0_howManyFast_3 : decode cX0_howManyFast 3 = .ok (.istore_n 2, 1) := by decide +kernel
theorem dX0_howManyFast_4 : decode cX0_howManyFast 4 = .ok (.iload_n 2, 1) := by decide +kernel
theorem dX0_howManyFast_5 : decode cX0_howManyFast 5 = .ok (.aload_n 0, 1) := by decide +kernel
theorem dX0_howManyFast_6 : decode cX0_howManyFast 6 = .ok (.getfield 44, 3) := by decide +kernel
theorem dX0_howManyFast_9 : decode cX0_howManyFast 9 = .ok (.getfield 82, 3) := by decide +kernel
theorem dX0_howManyFast_12 : decode cX0_howManyFast 12 = .ok (.if_icmp .ge 18, 3) := by decide +kernel
theorem dX0_howManyFast_15 : decode cX0_howManyFast 15 = .ok (.iload_n 1, 1) := by decide +kernel
theorem dX0_howManyFast_16 : decode cX0_howManyFast 16 = .ok (.aload_n 0, 1) := by decide +kernel
theorem dX0_howManyFast_17 : decode cX0_howManyFast 17 = .ok (.getfield 18, 3) := by decide +kernel
theorem dX0_howManyFast_20 : decode cX0_howManyFast 20 = .ok (.iload_n 2, 1) := by decide +kernel
theorem dX0_howManyFast_21 : decode cX0_howManyFast 21 = .ok (.iaload, 1) := by decide +kernel
theorem dX0_howManyFast_22 : decode cX0_howManyFast 22 = .ok (.iadd, 1) := by decide +kernel
theorem dX0_howManyFast_23 : decode cX0_howManyFast 23 = .ok (.istore_n 1, 1) := by decide +kernel
theorem dX0_howManyFast_24 : decode cX0_howManyFast 24 = .ok (.iinc 2 1, 3) := by decide +kernel
theorem dX0_howManyFast_27 : decode cX0_howManyFast 27 = .ok (.goto (-23), 3) := by decide +kernel
theorem dX0_howManyFast_30 : decode cX0_howManyFast 30 = .ok (.iload_n 1, 1) := by decide +kernel
theorem dX0_howManyFast_31 : decode cX0_howManyFast 31 = .ok (.ireturn, 1) := by decide +kernel
theorem dX1_init_0 : decode cX1_init 0 = .ok (.aload_n 0, 1) := by decide +kernel
theorem dX1_init_1 : decode cX1_init 1 = .ok (.invokespecial 3, 3) := by decide +kernel
theorem dX1_init_4 : decode cX1_init 4 = .ok (.aload_n 0, 1) := by decide +kernel
theorem dX1_init_5 : decode cX1_init 5 = .ok (.bipush 6, 2) := by decide +kernel
theorem dX1_init_7 : decode cX1_init 7 = .ok (.newarray .int, 2) := by decide +kernel
theorem dX1_init_9 : decode cX1_init 9 = .ok (.putfield 9, 3) := by decide +kernel
theorem dX1_init_12 : decode cX1_init 12 = .ok (.aload_n 0, 1) := by decide +kernel
theorem dX1_init_13 : decode cX1_init 13 = .ok (.bipush 36, 2) := by decide +kernel
theorem dX1_init_15 : decode cX1_init 15 = .ok (.newarray .int, 2) := by decide +kernel
theorem dX1_init_17 : decode cX1_init 17 = .ok (.putfield 15, 3) := by decide +kernel
theorem dX1_init_20 : decode cX1_init 20 = .ok (.aload_n 0, 1) := by decide +kernel
theorem dX1_init_21 : decode cX1_init 21 = .ok (.bipush 36, 2) := by decide +kernel
theorem dX1_init_23 : decode cX1_init 23 = .ok (.newarray .int, 2) := by decide +kernel
theorem dX1_init_25 : decode cX1_init 25 = .ok (.putfield 18, 3) := by decide +kernel
theorem dX1_init_28 : decode cX1_init 28 = .ok (.aload_n 0, 1) := by decide +kernel
theorem dX1_init_29 : decode cX1_init 29 = .ok (.iconst 0, 1) := by decide +kernel
theorem dX1_init_30 : decode cX1_init 30 = .ok (.putfield 21, 3) := by decide +kernel
theorem dX1_init_33 : decode cX1_init 33 = .ok (.aload_n 0, 1) := by decide +kernel
theorem dX1_init_34 : decode cX1_init 34 = .ok (.iconst 0, 1) := by decide +kernel
theorem dX1_init_35 : decode cX1_init 35 = .ok (.putfield 25, 3) := by decide +kernel
theorem dX1_init_38 : decode cX1_init 38 = .ok (.return_, 1) := by decide +kernel
theorem dX1_isRead_0 : decode cX1_isRead 0 = .ok (.aload_n 0, 1) := by decide +kernel
theorem dX1_isRead_1 : decode cX1_isRead 1 = .ok (.getfield 21, 3) := by decide +kernel
theorem dX1_isRead_4 : decode cX1_isRead 4 = .ok (.ifCond .le 7, 3) := by decide +kernel
theorem dX1_isRead_7 : decode cX1_isRead 7 = .ok (.iconst 1, 1) := by decide +kernel
theorem dX1_isRead_8 : decode cX1_isRead 8 = .ok (.goto 4, 3) := by decide +kernel
theorem dX1_isRead_11 : decode cX1_isRead 11 = .ok (.iconst 0, 1) := by decide +kernel
theorem dX1_isRead_12 : decode cX1_isRead 12 = .ok (.ireturn, 1) := by decide +kernel
theorem dX1_hasNode_0 : decode cX1_hasNode 0 = .ok (.iload_n 1, 1) := by decide +kernel
theorem dX1_hasNode_1 : decode cX1_hasNode 1 = .ok (.ifCond .lt 15, 3) := by decide +kernel
theorem dX1_hasNode_4 : decode cX1_hasNode 4 = .ok (.iload_n 1, 1) := by decide +kernel
theorem dX1_hasNode_5 : decode cX1_hasNode 5 = .ok (.aload_n 0, 1) := by decide +kernel
theorem dX1_hasNode_6 : decode cX1_hasNode 6 = .ok (.getfield 21, 3) := by decide +kernel
theorem dX1_hasNode_9 : decode cX1_hasNode 9 = .ok (.if_icmp .ge 7, 3) := by decide +kernel
theorem dX1_hasNode_12 : decode cX1_hasNode 12 = .ok (.iconst 1, 1) := by decide +kernel
theorem dX1_hasNode_13 : decode cX1_hasNode 13 = .ok (.goto 4, 3) := by decide +kernel
theorem dX1_hasNode_16 : decode cX1_hasNode 16 = .ok (.iconst 0, 1) := by decide +kernel
theorem dX1_hasNode_17 : decode cX1_hasNode 17 = .ok (.ireturn, 1) := by decide +kernel
set_option maxRecDepth 20000 in
theorem ggX1_hasLink_X1_hasNode : GoodIn wsX1_hasLink wsX1_hasNode := goodIn_r _ [6, 7, 11, 12, 13, 14, 15] (by decide +kernel) (by decide +kernel)
set_option maxRecDepth 20000 in
theorem gX1_hasLink_X1_hasNode : GoodIn wsX1_hasLink (wsV RX1 28 RX1 yX1_hasNode wsX1_hasNode) := goodIn_app (goodIn_of _ (by decide +kernel)) ggX1_hasLink_X1_hasNode
set_option maxRecDepth 20000 in
theorem ggX1_hasLink_X3_cell : GoodIn wsX1_hasLink wsX3_cell := goodIn_r _ [10] (by decide +kernel) (by decide +kernel)
set_option maxRecDepth 20000 in
theorem gX1_hasLink_X3_cell_n32 : GoodIn wsX1_hasLink (wsX3_cell) := ggX1_hasLink_X3_cell
theorem dX1_hasLink_0 : decode cX1_hasLink 0 = .ok (.aload_n 0, 1) := by decide +kernel
theorem dX1_hasLink_1 : decode cX1_hasLink 1 = .ok (.iload_n 1, 1) := by decide +kernel
theorem dX1_hasLink_2 : decode cX1_hasLink 2 = .ok (.invokevirtual 28, 3) := by decide +kernel
theorem dX1_hasLink_5 : decode cX1_hasLink 5 = .ok (.ifCond .eq 29, 3) := by decide +kernel
theorem dX1_hasLink_8 : decode cX1_hasLink 8 = .ok (.aload_n 0, 1) := by decide +kernel
theorem dX1_hasLink_9 : decode cX1_hasLink 9 = .ok (.iload_n 2, 1) := by decide +kernel
theorem dX1_hasLink_10 : decode cX1_hasLink 10 = .ok (.invokevirtual 28, 3) := by decide +kernel
theorem dX1_hasLink_13 : decode cX1_hasLink 13 = .ok (.ifCond .eq 21, 3) := by decide +kernel
theorem dX1_hasLink_16 : decode cX1_hasLink 16 = .ok (.aload_n 0, 1) := by decide +kernel
theorem dX1_hasLink_17 : decode cX1_hasLink 17 = .ok (.getfield 18, 3) := by decide +kernel
theorem dX1_hasLink_20 : decode cX1_hasLink 20 = .ok (.iload_n 1, 1) := by decide +kernel
theorem dX1_hasLink_21 : decode cX1_hasLink 21 = .ok (.iload_n 2, 1) := by decide +kernel
theorem dX1_hasLink_22 : decode cX1_hasLink 22 = .ok (.invokestatic 32, 3) := by decide +kernel
theorem dX1_hasLink_25 : decode cX1_hasLink 25 = .ok (.iaload, 1) := by decide +kernel
theorem dX1_hasLink_26 : decode cX1_hasLink 26 = .ok (.iconst 1, 1) := by decide +kernel
theorem dX1_hasLink_27 : decode cX1_hasLink 27 = .ok (.if_icmp .ne 7, 3) := by decide +kernel
theorem dX1_hasLink_30 : decode cX1_hasLink 30 = .ok (.iconst 1, 1) := by decide +kernel
theorem dX1_hasLink_31 : decode cX1_hasLink 31 = .ok (.goto 4, 3) := by decide +kernel
theorem dX1_hasLink_34 : decode cX1_hasLink 34 = .ok (.iconst 0, 1) := by decide +kernel
theorem dX1_hasLink_35 : decode cX1_hasLink 35 = .ok (.ireturn, 1) := by decide +kernel
set_option maxRecDepth 20000 in
theorem ggX1_hopsOf_X3_cell : GoodIn wsX1_hopsOf wsX3_cell := goodIn_r _ [5] (by decide +kernel) (by decide +kernel)
set_option maxRecDepth 20000 in
theorem gX1_hopsOf_X3_cell_n32 : GoodIn wsX1_hopsOf (wsX3_cell) := ggX1_hopsOf_X3_cell
theorem dX1_hopsOf_0 : decode cX1_hopsOf 0 = .ok (.aload_n 0, 1) := by decide +kernel
theorem dX1_hopsOf_1 : decode cX1_hopsOf 1 = .ok (.getfield 18, 3) := by decide +kernel
theorem dX1_hopsOf_4 : decode cX1_hopsOf 4 = .ok (.iload_n 1, 1) := by decide +kernel
theorem dX1_hopsOf_5 : decode cX1_hopsOf 5 = .ok (.iload_n 2, 1) := by decide +kernel
theorem dX1_hopsOf_6 : decode cX1_hopsOf 6 = .ok (.invokestatic 32, 3) := by decide +kernel
theorem dX1_hopsOf_9 : decode cX1_hopsOf 9 = .ok (.iaload, 1) := by decide +kernel
theorem dX1_hopsOf_10 : decode cX1_hopsOf 10 = .ok (.istore_n 3, 1) := by decide +kernel
theorem dX1_hopsOf_11 : decode cX1_hopsOf 11 = .ok (.iload_n 3, 1) := by decide +kernel
theorem dX1_hopsOf_12 : decode cX1_hopsOf 12 = .ok (.sipush 1000, 3) := by decide +kernel
theorem dX1_hopsOf_15 : decode cX1_hopsOf 15 = .ok (.if_icmp .ge 7, 3) := by decide +kernel
theorem dX1_hopsOf_18 : decode cX1_hopsOf 18 = .ok (.iload_n 3, 1) := by decide +kernel
theorem dX1_hopsOf_19 : decode cX1_hopsOf 19 = .ok (.goto 5, 3) := by decide +kernel
theorem dX1_hopsOf_22 : decode cX1_hopsOf 22 = .ok (.ldc 36, 2) := by decide +kernel
theorem dX1_hopsOf_24 : decode cX1_hopsOf 24 = .ok (.ireturn, 1) := by decide +kernel
set_option maxRecDepth 20000 in
theorem ggX1_neighbourOf_X3_cell : GoodIn wsX1_neighbourOf wsX3_cell := goodIn_r _ [4] (by decide +kernel) (by decide +kernel)
set_option maxRecDepth 20000 in
theorem gX1_neighbourOf_X3_cell_n32 : GoodIn wsX1_neighbourOf (wsX3_cell) := ggX1_neighbourOf_X3_cell
theorem dX1_neighbourOf_0 : decode cX1_neighbourOf 0 = .ok (.aload_n 0, 1) := by decide +kernel
theorem dX1_neighbourOf_1 : decode cX1_neighbourOf 1 = .ok (.getfield 15, 3) := by decide +kernel
theorem dX1_neighbourOf_4 : decode cX1_neighbourOf 4 = .ok (.iload_n 1, 1) := by decide +kernel
theorem dX1_neighbourOf_5 : decode cX1_neighbourOf 5 = .ok (.iload_n 2, 1) := by decide +kernel
theorem dX1_neighbourOf_6 : decode cX1_neighbourOf 6 = .ok (.invokestatic 32, 3) := by decide +kernel
theorem dX1_neighbourOf_9 : decode cX1_neighbourOf 9 = .ok (.iaload, 1) := by decide +kernel
theorem dX1_neighbourOf_10 : decode cX1_neighbourOf 10 = .ok (.ireturn, 1) := by decide +kernel
set_option maxRecDepth 20000 in
theorem ggX1_readFrom_X2_digitAt : GoodIn wsX1_readFrom wsX2_digitAt := goodIn_r _ [9, 10, 11, 12, 8, 13, 14, 15, 16, 54, 55] (by decide +kernel) (by decide +kernel)
set_option maxRecDepth 20000 in
theorem gX1_readFrom_X2_digitAt : GoodIn wsX1_readFrom (wsV RX1 37 RX2 yX2_digitAt wsX2_digitAt) := goodIn_app (goodIn_of _ (by decide +kernel)) ggX1_readFrom_X2_digitAt
set_option maxRecDepth 20000 in
theorem ggX1_readFrom_X2_howManyLinks : GoodIn wsX1_readFrom wsX2_howManyLinks := goodIn_r _ [20, 14, 54, 55] (by decide +kernel) (by decide +kernel)
set_option maxRecDepth 20000 in
theorem gX1_readFrom_X2_howManyLinks : GoodIn wsX1_readFrom (wsV RX1 43 RX2 yX2_howManyLinks wsX2_howManyLinks) := goodIn_app (goodIn_of _ (by decide +kernel)) ggX1_readFrom_X2_howManyLinks
set_option maxRecDepth 20000 in
theorem ggX1_readFrom_X3_cell : GoodIn wsX1_readFrom wsX3_cell := goodIn_r _ [23] (by decide +kernel) (by decide +kernel)
set_option maxRecDepth 20000 in
theorem gX1_readFrom_X3_cell_n32 : GoodIn wsX1_readFrom (wsX3_cell) := ggX1_readFrom_X3_cell
set_option maxRecDepth 20000 in
theorem ggX1_readFrom_X2_placeOfLink : GoodIn wsX1_readFrom wsX2_placeOfLink := goodIn_r _ [26] (by decide +kernel) (by decide +kernel)
set_option maxRecDepth 20000 in
theorem gX1_readFrom_X2_placeOfLink : GoodIn wsX1_readFrom (va_wsS RX1 47 yX2_placeOfLink wsX2_placeOfLink) := goodIn_app (goodIn_of _ (by decide +kernel)) ggX1_readFrom_X2_placeOfLink
set_option maxRecDepth 20000 in
theorem ggX1_readFrom_X1_join : GoodIn wsX1_readFrom wsX1_join := goodIn_r _ [31, 32, 33, 34, 30, 35, 1, 36, 37, 38, 39, 3, 40, 4, 21, 22, 23, 49, 50, 51, 52, 53] (by decide +kernel) (by decide +kernel)
set_option maxRecDepth 20000 in
theorem gX1_readFrom_X1_join : GoodIn wsX1_readFrom (wsV RX1 50 RX1 yX1_join wsX1_join) := goodIn_app (goodIn_of _ (by decide +kernel)) ggX1_readFrom_X1_join
set_option maxRecDepth 20000 in
theorem ggX1_readFrom_X1_shortenWays : GoodIn wsX1_readFrom wsX1_shortenWays := goodIn_r _ [44, 1, 4, 45, 46, 47, 48, 21, 22, 23, 49, 50, 51, 52, 53] (by decide +kernel) (by decide +kernel)
set_option maxRecDepth 20000 in
theorem gX1_readFrom_X1_shortenWays : GoodIn wsX1_readFrom (wsV RX1 54 RX1 yX1_shortenWays wsX1_shortenWays) := goodIn_app (goodIn_of _ (by decide +kernel)) ggX1_readFrom_X1_shortenWays
theorem dX1_readFrom_0 : decode cX1_readFrom 0 = .ok (.aload_n 0, 1) := by decide +kernel
theorem dX1_readFrom_1 : decode cX1_readFrom 1 = .ok (.aload_n 1, 1) := by decide +kernel
theorem dX1_readFrom_2 : decode cX1_readFrom 2 = .ok (.iconst 0, 1) := by decide +kernel
theorem dX1_readFrom_3 : decode cX1_readFrom 3 = .ok (.invokevirtual 37, 3) := by decide +kernel
theorem dX1_readFrom_6 : decode cX1_readFrom 6 = .ok (.putfield 21, 3) := by decide +kernel
theorem dX1_readFrom_9 : decode cX1_readFrom 9 = .ok (.aload_n 0, 1) := by decide +kernel
theorem dX1_readFrom_10 : decode cX1_readFrom 10 = .ok (.aload_n 1, 1) := by decide +kernel
theorem dX1_readFrom_11 : decode cX1_readFrom 11 = .ok (.invokevirtual 43, 3) := by decide +kernel
theorem dX1_readFrom_14 : decode cX1_readFrom 14 = .ok (.putfield 25, 3) := by decide +kernel
theorem dX1_readFrom_17 : decode cX1_readFrom 17 = .ok (.iconst 0, 1) := by decide +kernel
theorem dX1_readFrom_18 : decode cX1_readFrom 18 = .ok (.istore_n 2, 1) := by decide +kernel
theorem dX1_readFrom_19 : decode cX1_readFrom 19 = .ok (.iload_n 2, 1) := by decide +kernel
theorem dX1_readFrom_20 : decode cX1_readFrom 20 = .ok (.bipush 6, 2) := by decide +kernel
theorem dX1_readFrom_22 : decode cX1_readFrom 22 = .ok (.if_icmp .ge 52, 3) := by decide +kernel
theorem dX1_readFrom_25 : decode cX1_readFrom 25 = .ok (.aload_n 0, 1) := by decide +kernel
theorem dX1_readFrom_26 : decode cX1_readFrom 26 = .ok (.getfield 9, 3) := by decide +kernel
theorem dX1_readFrom_29 : decode cX1_readFrom 29 = .ok (.iload_n 2, 1) := by decide +kernel
theorem dX1_readFrom_30 : decode cX1_readFrom 30 = .ok (.iconst 0, 1) := by decide +kernel
theorem dX1_readFrom_31 : decode cX1_readFrom 31 = .ok (.iastore, 1) := by decide +kernel
theorem dX1_readFrom_32 : decode cX1_readFrom 32 = .ok (.iconst 0, 1) := by decide +kernel
theorem dX1_readFrom_33 : decode cX1_readFrom 33 = .ok (.istore_n 3, 1) := by decide +kernel
theorem dX1_readFrom_34 : decode cX1_readFrom 34 = .ok (.iload_n 3, 1) := by decide +kernel
theorem dX1_readFrom_35 : decode cX1_readFrom 35 = .ok (.bipush 6, 2) := by decide +kernel
theorem dX1_readFrom_37 : decode cX1_readFrom 37 = .ok (.if_icmp .ge 31, 3) := by decide +kernel
theorem dX1_readFrom_40 : decode cX1_readFrom 40 = .ok (.aload_n 0, 1) := by decide +kernel
theorem dX1_readFrom_41 : decode cX1_readFrom 41 = .ok (.getfield 18, 3) := by decide +kernel
theorem dX1_readFrom_44 : decode cX1_readFrom 44 = .ok (.iload_n 2, 1) := by decide +kernel
theorem dX1_readFrom_45 : decode cX1_readFrom 45 = .ok (.iload_n 3, 1) := by decide +kernel
theorem dX1_readFrom_46 : decode cX1_readFrom 46 = .ok (.invokestatic 32, 3) := by decide +kernel
theorem dX1_readFrom_49 : decode cX1_readFrom 49 = .ok (.iload_n 2, 1) := by decide +kernel
theorem dX1_readFrom_50 : decode cX1_readFrom 50 = .ok (.iload_n 3, 1) := by decide +kernel
theorem dX1_readFrom_51 : decode cX1_readFrom 51 = .ok (.if_icmp .ne 7, 3) := by decide +kernel
theorem dX1_readFrom_54 : decode cX1_readFrom 54 = .ok (.iconst 0, 1) := by decide +kernel
theorem dX1_readFrom_55 : decode cX1_readFrom 55 = .ok (.goto 6, 3) := by decide +kernel
theorem dX1_readFrom_58 : decode cX1_readFrom 58 = .ok (.sipush 1000, 3) := by decide +kernel
theorem dX1_readFrom_61 : decode cX1_readFrom 61 = .ok (.iastore, 1) := by decide +kernel
theorem dX1_readFrom_62 : decode cX1_readFrom 62 = .ok (.iinc 3 1, 3) := by decide +kernel
theorem dX1_readFrom_65 : decode cX1_readFrom 65 = .ok (.goto (-31), 3) := by decide +kernel
theorem dX1_readFrom_68 : decode cX1_readFrom 68 = .ok (.iinc 2 1, 3) := by decide +kernel
theorem dX1_readFrom_71 : decode cX1_readFrom 71 = .ok (.goto (-52), 3) := by decide +kernel
theorem dX1_readFrom_74 : decode cX1_readFrom 74 = .ok (.iconst 0, 1) := by decide +kernel
theorem dX1_readFrom_75 : decode cX1_readFrom 75 = .ok (.istore_n 2, 1) := by decide +kernel
theorem dX1_readFrom_76 : decode cX1_readFrom 76 = .ok (.iload_n 2, 1) := by decide +kernel
theorem dX1_readFrom_77 : decode cX1_readFrom 77 = .ok (.aload_n 0, 1) := by decide +kernel
theorem dX1_readFrom_78 : decode cX1_readFrom 78 = .ok (.getfield 25, 3) := by decide +kernel
theorem dX1_readFrom_81 : decode cX1_readFrom 81 = .ok (.if_icmp .ge 30, 3) := by decide +kernel
theorem dX1_readFrom_84 : decode cX1_readFrom 84 = .ok (.iload_n 2, 1) := by decide +kernel
theorem dX1_readFrom_85 : decode cX1_readFrom 85 = .ok (.invokestatic 47, 3) := by decide +kernel
theorem dX1_readFrom_88 : decode cX1_readFrom 88 = .ok (.istore_n 3, 1) := by decide +kernel
theorem dX1_readFrom_89 : decode cX1_readFrom 89 = .ok (.aload_n 0, 1) := by decide +kernel
theorem dX1_readFrom_90 : decode cX1_readFrom 90 = .ok (.aload_n 1, 1) := by decide +kernel
theorem dX1_readFrom_91 : decode cX1_readFrom 91 = .ok (.iload_n 3, 1) := by decide +kernel
theorem dX1_readFrom_92 : decode cX1_readFrom 92 = .ok (.invokevirtual 37, 3) := by decide +kernel
theorem dX1_readFrom_95 : decode cX1_readFrom 95 = .ok (.aload_n 1, 1) := by decide +kernel
theorem dX1_readFrom_96 : decode cX1_readFrom 96 = .ok (.iload_n 3, 1) := by decide +kernel
theorem dX1_readFrom_97 : decode cX1_readFrom 97 = .ok (.iconst 1, 1) := by decide +kernel
theorem dX1_readFrom_98 : decode cX1_readFrom 98 = .ok (.iadd, 1) := by decide +kernel
theorem dX1_readFrom_99 : decode cX1_readFrom 99 = .ok (.invokevirtual 37, 3) := by decide +kernel
theorem dX1_readFrom_102 : decode cX1_readFrom 102 = .ok (.invokevirtual 50, 3) := by decide +kernel
theorem dX1_readFrom_105 : decode cX1_readFrom 105 = .ok (.iinc 2 1, 3) := by decide +kernel
theorem dX1_readFrom_108 : decode cX1_readFrom 108 = .ok (.goto (-32), 3) := by decide +kernel
theorem dX1_readFrom_111 : decode cX1_readFrom 111 = .ok (.aload_n 0, 1) := by decide +kernel
theorem dX1_readFrom_112 : decode cX1_readFrom 112 = .ok (.invokevirtual 54, 3) := by decide +kernel
theorem dX1_readFrom_115 : decode cX1_readFrom 115 = .ok (.return_, 1) := by decide +kernel
set_option maxRecDepth 20000 in
theorem ggX1_join_X1_hasNode : GoodIn wsX1_join wsX1_hasNode := goodIn_r _ [5, 6, 17, 18, 19, 20, 21] (by decide +kernel) (by decide +kernel)
set_option maxRecDepth 20000 in
theorem gX1_join_X1_hasNode : GoodIn wsX1_join (wsV RX1 28 RX1 yX1_hasNode wsX1_hasNode) := goodIn_app (goodIn_of _ (by decide +kernel)) ggX1_join_X1_hasNode
set_option maxRecDepth 20000 in
theorem ggX1_join_X1_addNeighbour : GoodIn wsX1_join wsX1_addNeighbour := goodIn_r _ [10, 11, 12, 13, 14, 15, 16, 17, 18, 19, 20, 21] (by decide +kernel) (by decide +kernel)
set_option maxRecDepth 20000 in
theorem gX1_join_X1_addNeighbour : GoodIn wsX1_join (wsV RX1 57 RX1 yX1_addNeighbour wsX1_addNeighbour) := goodIn_app (goodIn_of _ (by decide +kernel)) ggX1_join_X1_addNeighbour
theorem dX1_join_0 : decode cX1_join 0 = .ok (.aload_n 0, 1) := by decide +kernel
theorem dX1_join_1 : decode cX1_join 1 = .ok (.iload_n 1, 1) := by decide +kernel
theorem dX1_join_2 : decode cX1_join 2 = .ok (.invokevirtual 28, 3) := by decide +kernel
theorem dX1_join_5 : decode cX1_join 5 = .ok (.ifCond .eq 23, 3) := by decide +kernel
theorem dX1_join_8 : decode cX1_join 8 = .ok (.aload_n 0, 1) := by decide +kernel
theorem dX1_join_9 : decode cX1_join 9 = .ok (.iload_n 2, 1) := by decide +kernel
theorem dX1_join_10 : decode cX1_join 10 = .ok (.invokevirtual 28, 3) := by decide +kernel
theorem dX1_join_13 : decode cX1_join 13 = .ok (.ifCond .eq 15, 3) := by decide +kernel
theorem dX1_join_16 : decode cX1_join 16 = .ok (.aload_n 0, 1) := by decide +kernel
theorem dX1_join_17 : decode cX1_join 17 = .ok (.iload_n 1, 1) := by decide +kernel
theorem dX1_join_18 : decode cX1_join 18 = .ok (.iload_n 2, 1) := by decide +kernel
theorem dX1_join_19 : decode cX1_join 19 = .ok (.invokevirtual 57, 3) := by decide +kernel
theorem dX1_join_22 : decode cX1_join 22 = .ok (.aload_n 0, 1) := by decide +kernel
theorem dX1_join_23 : decode cX1_join 23 = .ok (.iload_n 2, 1) := by decide +kernel
theorem dX1_join_24 : decode cX1_join 24 = .ok (.iload_n 1, 1) := by decide +kernel
theorem dX1_join_25 : decode cX1_join 25 = .ok (.invokevirtual 57, 3) := by decide +kernel
theorem dX1_join_28 : decode cX1_join 28 = .ok (.return_, 1) := by decide +kernel
set_option maxRecDepth 20000 in
theorem ggX1_addNeighbour_X3_cell : GoodIn wsX1_addNeighbour wsX3_cell := goodIn_r _ [6] (by decide +kernel) (by decide +kernel)
set_option maxRecDepth 20000 in
theorem gX1_addNeighbour_X3_cell_n32 : GoodIn wsX1_addNeighbour (wsX3_cell) := ggX1_addNeighbour_X3_cell
theorem dX1_addNeighbour_0 : decode cX1_addNeighbour 0 = .ok (.aload_n 0, 1) := by decide +kernel
theorem dX1_addNeighbour_1 : decode cX1_addNeighbour 1 = .ok (.getfield 9, 3) := by decide +kernel
theorem dX1_addNeighbour_4 : decode cX1_addNeighbour 4 = .ok (.iload_n 1, 1) := by decide +kernel
theorem dX1_addNeighbour_5 : decode cX1_addNeighbour 5 = .ok (.iaload, 1) := by decide +kernel
theorem dX1_addNeighbour_6 : decode cX1_addNeighbour 6 = .ok (.bipush 6, 2) := by decide +kernel
theorem dX1_addNeighbour_8 : decode cX1_addNeighbour 8 = .ok (.if_icmp .ge 40, 3) := by decide +kernel
theorem dX1_addNeighbour_11 : decode cX1_addNeighbour 11 = .ok (.aload_n 0, 1) := by decide +kernel
theorem dX1_addNeighbour_12 : decode cX1_addNeighbour 12 = .ok (.getfield 15, 3) := by decide +kernel
theorem dX1_addNeighbour_15 : decode cX1_addNeighbour 15 = .ok (.iload_n 1, 1) := by decide +kernel
theorem dX1_addNeighbour_16 : decode cX1_addNeighbour 16 = .ok (.aload_n 0, 1) := by decide +kernel
theorem dX1_addNeighbour_17 : decode cX1_addNeighbour 17 = .ok (.getfield 9, 3) := by decide +kernel
theorem dX1_addNeighbour_20 : decode cX1_addNeighbour 20 = .ok (.iload_n 1, 1) := by decide +kernel
theorem dX1_addNeighbour_21 : decode cX1_addNeighbour 21 = .ok (.iaload, 1) := by decide +kernel
theorem dX1_addNeighbour_22 : decode cX1_addNeighbour 22 = .ok (.invokestatic 32, 3) := by decide +kernel
theorem dX1_addNeighbour_25 : decode cX1_addNeighbour 25 = .ok (.iload_n 2, 1) := by decide +kernel
theorem dX1_addNeighbour_26 : decode cX1_addNeighbour 26 = .ok (.iastore, 1) := by decide +kernel
theorem dX1_addNeighbour_27 : decode cX1_addNeighbour 27 = .ok (.aload_n 0, 1) := by decide +kernel
theorem dX1_addNeighbour_28 : decode cX1_addNeighbour 28 = .ok (.getfield 9, 3) := by decide +kernel
theorem dX1_addNeighbour_31 : decode cX1_addNeighbour 31 = .ok (.iload_n 1, 1) := by decide +kernel
theorem dX1_addNeighbour_32 : decode cX1_addNeighbour 32 = .ok (.dup2, 1) := by decide +kernel
theorem dX1_addNeighbour_33 : decode cX1_addNeighbour 33 = .ok (.iaload, 1) := by decide +kernel
theorem dX1_addNeighbour_34 : decode cX1_addNeighbour 34 = .ok (.iconst 1, 1) := by decide +kernel
theorem dX1_addNeighbour_35 : decode cX1_addNeighbour 35 = .ok (.iadd, 1) := by decide +kernel
theorem dX1_addNeighbour_36 : decode cX1_addNeighbour 36 = .ok (.iastore, 1) := by decide +kernel
theorem dX1_addNeighbour_37 : decode cX1_addNeighbour 37 = .ok (.aload_n 0, 1) := by decide +kernel
theorem dX1_addNeighbour_38 : decode cX1_addNeighbour 38 = .ok (.getfield 18, 3) := by decide +kernel
theorem dX1_addNeighbour_41 : decode cX1_addNeighbour 41 = .ok (.iload_n 1, 1) := by decide +kernel
theorem dX1_addNeighbour_42 : decode cX1_addNeighbour 42 = .ok (.iload_n 2, 1) := by decide +kernel
theorem dX1_addNeighbour_43 : decode cX1_addNeighbour 43 = .ok (.invokestatic 32, 3) := by decide +kernel
theorem dX1_addNeighbour_46 : decode cX1_addNeighbour 46 = .ok (.iconst 1, 1) := by decide +kernel
theorem dX1_addNeighbour_47 : decode cX1_addNeighbour 47 = .ok (.iastore, 1) := by decide +kernel
theorem dX1_addNeighbour_48 : decode cX1_addNeighbour 48 = .ok (.return_, 1) := by decide +kernel
set_option maxRecDepth 20000 in
theorem ggX1_shortenWays_X3_cell : GoodIn wsX1_shortenWays wsX3_cell := goodIn_r _ [9] (by decide +kernel) (by decide +kernel)
set_option maxRecDepth 20000 in
theorem gX1_shortenWays_X3_cell_n32 : GoodIn wsX1_shortenWays (wsX3_cell) := ggX1_shortenWays_X3_cell
theorem dX1_shortenWays_0 : decode cX1_shortenWays 0 = .ok (.iconst 0, 1) := by decide +kernel
theorem dX1_shortenWays_1 : decode cX1_shortenWays 1 = .ok (.istore_n 1, 1) := by decide +kernel
theorem dX1_shortenWays_2 : decode cX1_shortenWays 2 = .ok (.iload_n 1, 1) := by decide +kernel
theorem dX1_shortenWays_3 : decode cX1_shortenWays 3 = .ok (.aload_n 0, 1) := by decide +kernel
theorem dX1_shortenWays_4 : decode cX1_shortenWays 4 = .ok (.getfield 21, 3) := by decide +kernel
theorem dX1_shortenWays_7 : decode cX1_shortenWays 7 = .ok (.if_icmp .ge 89, 3) := by decide +kernel
theorem dX1_shortenWays_10 : decode cX1_shortenWays 10 = .ok (.iconst 0, 1) := by decide +kernel
theorem dX1_shortenWays_11 : decode cX1_shortenWays 11 = .ok (.istore_n 2, 1) := by decide +kernel
theorem dX1_shortenWays_12 : decode cX1_shortenWays 12 = .ok (.iload_n 2, 1) := by decide +kernel
theorem dX1_shortenWays_13 : decode cX1_shortenWays 13 = .ok (.aload_n 0, 1) := by decide +kernel
theorem dX1_shortenWays_14 : decode cX1_shortenWays 14 = .ok (.getfield 21, 3) := by decide +kernel
theorem dX1_shortenWays_17 : decode cX1_shortenWays 17 = .ok (.if_icmp .ge 73, 3) := by decide +kernel
theorem dX1_shortenWays_20 : decode cX1_shortenWays 20 = .ok (.iconst 0, 1) := by decide +kernel
theorem dX1_shortenWays_21 : decode cX1_shortenWays 21 = .ok (.istore_n 3, 1) := by decide +kernel
theorem dX1_shortenWays_22 : decode cX1_shortenWays 22 = .ok (.iload_n 3, 1) := by decide +kernel
theorem dX1_shortenWays_23 : decode cX1_shortenWays 23 = .ok (.aload_n 0, 1) := by decide +kernel
theorem dX1_shortenWays_24 : decode cX1_shortenWays 24 = .ok (.getfield 21, 3) := by decide +kernel
theorem dX1_shortenWays_27 : decode cX1_shortenWays 27 = .ok (.if_icmp .ge 57, 3) := by decide +kernel
theorem dX1_shortenWays_30 : decode cX1_shortenWays 30 = .ok (.aload_n 0, 1) := by decide +kernel
theorem dX1_shortenWays_31 : decode cX1_shortenWays 31 = .ok (.getfield 18, 3) := by decide +kernel
theorem dX1_shortenWays_34 : decode cX1_shortenWays 34 = .ok (.iload_n 2, 1) := by decide +kernel
theorem dX1_shortenWays_35 : decode cX1_shortenWays 35 = .ok (.iload_n 1, 1) := by decide +kernel
theorem dX1_shortenWays_36 : decode cX1_shortenWays 36 = .ok (.invokestatic 32, 3) := by decide +kernel
theorem dX1_shortenWays_39 : decode cX1_shortenWays 39 = .ok (.iaload, 1) := by decide +kernel
theorem dX1_shortenWays_40 : decode cX1_shortenWays 40 = .ok (.aload_n 0, 1) := by decide +kernel
theorem dX1_shortenWays_41 : decode cX1_shortenWays 41 = .ok (.getfield 18, 3) := by decide +kernel
theorem dX1_shortenWays_44 : decode cX1_shortenWays 44 = .ok (.iload_n 1, 1) := by decide +kernel
theorem dX1_shortenWays_45 : decode cX1_shortenWays 45 = .ok (.iload_n 3, 1) := by decide +kernel
theorem dX1_shortenWays_46 : decode cX1_shortenWays 46 = .ok (.invokestatic 32, 3) := by decide +kernel
theorem dX1_shortenWays_49 : decode cX1_shortenWays 49 = .ok (.iaload, 1) := by decide +kernel
theorem dX1_shortenWays_50 : decode cX1_shortenWays 50 = .ok (.iadd, 1) := by decide +kernel
theorem dX1_shortenWays_51 : decode cX1_shortenWays 51 = .ok (.istore 4, 2) := by decide +kernel
theorem dX1_shortenWays_53 : decode cX1_shortenWays 53 = .ok (.aload_n 0, 1) := by decide +kernel
theorem dX1_shortenWays_54 : decode cX1_shortenWays 54 = .ok (.getfield 18, 3) := by decide +kernel
theorem dX1_shortenWays_57 : decode cX1_shortenWays 57 = .ok (.iload_n 2, 1) := by decide +kernel
theorem dX1_shortenWays_58 : decode cX1_shortenWays 58 = .ok (.iload_n 3, 1) := by decide +kernel
theorem dX1_shortenWays_59 : decode cX1_shortenWays 59 = .ok (.invokestatic 32, 3) := by decide +kernel
theorem dX1_shortenWays_62 : decode cX1_shortenWays 62 = .ok (.aload_n 0, 1) := by decide +kernel
theorem dX1_shortenWays_63 : decode cX1_shortenWays 63 = .ok (.getfield 18, 3) := by decide +kernel
theorem dX1_shortenWays_66 : decode cX1_shortenWays 66 = .ok (.iload_n 2, 1) := by decide +kernel
theorem dX1_shortenWays_67 : decode cX1_shortenWays 67 = .ok (.iload_n 3, 1) := by decide +kernel
theorem dX1_shortenWays_68 : decode cX1_shortenWays 68 = .ok (.invokestatic 32, 3) := by decide +kernel
theorem dX1_shortenWays_71 : decode cX1_shortenWays 71 = .ok (.iaload, 1) := by decide +kernel
theorem dX1_shortenWays_72 : decode cX1_shortenWays 72 = .ok (.iload 4, 2) := by decide +kernel
theorem dX1_shortenWays_74 : decode cX1_shortenWays 74 = .ok (.invokestatic 60, 3) := by decide +kernel
theorem dX1_shortenWays_77 : decode cX1_shortenWays 77 = .ok (.iastore, 1) := by decide +kernel
theorem dX1_shortenWays_78 : decode cX1_shortenWays 78 = .ok (.iinc 3 1, 3) := by decide +kernel
theorem dX1_shortenWays_81 : decode cX1_shortenWays 81 = .ok (.goto (-59), 3) := by decide +kernel
theorem dX1_shortenWays_84 : decode cX1_shortenWays 84 = .ok (.iinc 2 1, 3) := by decide +kernel
theorem dX1_shortenWays_87 : decode cX1_shortenWays 87 = .ok (.goto (-75), 3) := by decide +kernel
theorem dX1_shortenWays_90 : decode cX1_shortenWays 90 = .ok (.iinc 1 1, 3) := by decide +kernel
theorem dX1_shortenWays_93 : decode cX1_shortenWays 93 = .ok (.goto (-91), 3) := by decide +kernel
theorem dX1_shortenWays_96 : decode cX1_shortenWays 96 = .ok (.return_, 1) := by decide +kernel
theorem dX2_init_0 : decode cX2_init 0 = .ok (.aload_n 0, 1) := by decide +kernel
theorem dX2_init_1 : decode cX2_init 1 = .ok (.invokespecial 3, 3) := by decide +kernel
theorem dX2_init_4 : decode cX2_init 4 = .ok (.aload_n 0, 1) := by decide +kernel
theorem dX2_init_5 : decode cX2_init 5 = .ok (.bipush 61, 2) := by decide +kernel
theorem dX2_init_7 : decode cX2_init 7 = .ok (.newarray .int, 2) := by decide +kernel
theorem dX2_init_9 : decode cX2_init 9 = .ok (.putfield 9, 3) := by decide +kernel
theorem dX2_init_12 : decode cX2_init 12 = .ok (.aload_n 0, 1) := by decide +kernel
theorem dX2_init_13 : decode cX2_init 13 = .ok (.iconst 0, 1) := by decide +kernel
theorem dX2_init_14 : decode cX2_init 14 = .ok (.putfield 15, 3) := by decide +kernel
theorem dX2_init_17 : decode cX2_init 17 = .ok (.return_, 1) := by decide +kernel
theorem dX2_isFull_0 : decode cX2_isFull 0 = .ok (.aload_n 0, 1) := by decide +kernel
theorem dX2_isFull_1 : decode cX2_isFull 1 = .ok (.getfield 15, 3) := by decide +kernel
theorem dX2_isFull_4 : decode cX2_isFull 4 = .ok (.bipush 61, 2) := by decide +kernel
theorem dX2_isFull_6 : decode cX2_isFull 6 = .ok (.if_icmp .lt 7, 3) := by decide +kernel
theorem dX2_isFull_9 : decode cX2_isFull 9 = .ok (.iconst 1, 1) := by decide +kernel
theorem dX2_isFull_10 : decode cX2_isFull 10 = .ok (.goto 4, 3) := by decide +kernel
theorem dX2_isFull_13 : decode cX2_isFull 13 = .ok (.iconst 0, 1) := by decide +kernel
theorem dX2_isFull_14 : decode cX2_isFull 14 = .ok (.ireturn, 1) := by decide +kernel
theorem dX2_append_0 : decode cX2_append 0 = .ok (.aload_n 0, 1) := by decide +kernel
theorem dX2_append_1 : decode cX2_append 1 = .ok (.getfield 15, 3) := by decide +kernel
theorem dX2_append_4 : decode cX2_append 4 = .ok (.bipush 61, 2) := by decide +kernel
theorem dX2_append_6 : decode cX2_append 6 = .ok (.if_icmp .ge 23, 3) := by decide +kernel
theorem dX2_append_9 : decode cX2_append 9 = .ok (.aload_n 0, 1) := by decide +kernel
theorem dX2_append_10 : decode cX2_append 10 = .ok (.getfield 9, 3) := by decide +kernel
theorem dX2_append_13 : decode cX2_append 13 = .ok (.aload_n 0, 1) := by decide +kernel
theorem dX2_append_14 : decode cX2_append 14 = .ok (.getfield 15, 3) := by decide +kernel
theorem dX2_append_17 : decode cX2_append 17 = .ok (.iload_n 1, 1) := by decide +kernel
theorem dX2_append_18 : decode cX2_append 18 = .ok (.iastore, 1) := by decide +kernel
theorem dX2_append_19 : decode cX2_append 19 = .ok (.aload_n 0, 1) := by decide +kernel
theorem dX2_append_20 : decode cX2_append 20 = .ok (.dup, 1) := by decide +kernel
theorem dX2_append_21 : decode cX2_append 21 = .ok (.getfield 15, 3) := by decide +kernel
theorem dX2_append_24 : decode cX2_append 24 = .ok (.iconst 1, 1) := by decide +kernel
theorem dX2_append_25 : decode cX2_append 25 = .ok (.iadd, 1) := by decide +kernel
theorem dX2_append_26 : decode cX2_append 26 = .ok (.putfield 15, 3) := by decide +kernel
theorem dX2_append_29 : decode cX2_append 29 = .ok (.aload_n 0, 1) := by decide +kernel
theorem dX2_append_30 : decode cX2_append 30 = .ok (.getfield 15, 3) := by decide +kernel
theorem dX2_append_33 : decode cX2_append 33 = .ok (.ireturn, 1) := by decide +kernel
theorem dX2_empty_0 : decode cX2_empty 0 = .ok (.aload_n 0, 1) := by decide +kernel
theorem dX2_empty_1 : decode cX2_empty 1 = .ok (.getfield 15, 3) := by decide +kernel
theorem dX2_empty_4 : decode cX2_empty 4 = .ok (.istore_n 1, 1) := by decide +kernel
theorem dX2_empty_5 : decode cX2_empty 5 = .ok (.aload_n 0, 1) := by decide +kernel
theorem dX2_empty_6 : decode cX2_empty 6 = .ok (.iconst 0, 1) := by decide +kernel
theorem dX2_empty_7 : decode cX2_empty 7 = .ok (.putfield 15, 3) := by decide +kernel
theorem dX2_empty_10 : decode cX2_empty 10 = .ok (.iload_n 1, 1) := by decide +kernel
theorem dX2_empty_11 : decode cX2_empty 11 = .ok (.ireturn, 1) := by decide +kernel
theorem dX2_letterAt_0 : decode cX2_letterAt 0 = .ok (.iload_n 1, 1) := by decide +kernel
theorem dX2_letterAt_1 : decode cX2_letterAt 1 = .ok (.ifCond .lt 20, 3) := by decide +kernel
theorem dX2_letterAt_4 : decode cX2_letterAt 4 = .ok (.iload_n 1, 1) := by decide +kernel
theorem dX2_letterAt_5 : decode cX2_letterAt 5 = .ok (.aload_n 0, 1) := by decide +kernel
theorem dX2_letterAt_6 : decode cX2_letterAt 6 = .ok (.getfield 15, 3) := by decide +kernel
theorem dX2_letterAt_9 : decode cX2_letterAt 9 = .ok (.if_icmp .ge 12, 3) := by decide +kernel
theorem dX2_letterAt_12 : decode cX2_letterAt 12 = .ok (.aload_n 0, 1) := by decide +kernel
theorem dX2_letterAt_13 : decode cX2_letterAt 13 = .ok (.getfield 9, 3) := by decide +kernel
theorem dX2_letterAt_16 : decode cX2_letterAt 16 = .ok (.iload_n 1, 1) := by decide +kernel
theorem dX2_letterAt_17 : decode cX2_letterAt 17 = .ok (.iaload, 1) := by decide +kernel
theorem dX2_letterAt_18 : decode cX2_letterAt 18 = .ok (.goto 5, 3) := by decide +kernel
theorem dX2_letterAt_21 : decode cX2_letterAt 21 = .ok (.ldc 19, 2) := by decide +kernel
theorem dX2_letterAt_23 : decode cX2_letterAt 23 = .ok (.ireturn, 1) := by decide +kernel
set_option maxRecDepth 20000 in
theorem ggX2_digitAt_X2_letterAt : GoodIn wsX2_digitAt wsX2_letterAt := goodIn_r _ [5, 6, 7, 8, 9, 10] (by decide +kernel) (by decide +kernel)
set_option maxRecDepth 20000 in
theorem gX2_digitAt_X2_letterAt : GoodIn wsX2_digitAt (wsV RX2 20 RX2 yX2_letterAt wsX2_letterAt) := goodIn_app (goodIn_of _ (by decide +kernel)) ggX2_digitAt_X2_letterAt
theorem dX2_digitAt_0 : decode cX2_digitAt 0 = .ok (.aload_n 0, 1) := by decide +kernel
theorem dX2_digitAt_1 : decode cX2_digitAt 1 = .ok (.iload_n 1, 1) := by decide +kernel
theorem dX2_digitAt_2 : decode cX2_digitAt 2 = .ok (.invokevirtual 20, 3) := by decide +kernel
theorem dX2_digitAt_5 : decode cX2_digitAt 5 = .ok (.bipush 48, 2) := by decide +kernel
theorem dX2_digitAt_7 : decode cX2_digitAt 7 = .ok (.isub, 1) := by decide +kernel
theorem dX2_digitAt_8 : decode cX2_digitAt 8 = .ok (.ireturn, 1) := by decide +kernel
set_option maxRecDepth 20000 in
theorem ggX2_firstFault_X2_fitsAt : GoodIn wsX2_firstFault wsX2_fitsAt := goodIn_r _ [6, 7, 8, 9, 5, 10, 11, 12, 13, 14, 1, 15, 16, 17, 18, 19, 20, 21, 22, 23, 24, 25, 26, 27, 28, 29] (by decide +kernel) (by decide +kernel)
set_option maxRecDepth 20000 in
theorem gX2_firstFault_X2_fitsAt : GoodIn wsX2_firstFault (wsV RX2 24 RX2 yX2_fitsAt wsX2_fitsAt) := goodIn_app (goodIn_of _ (by decide +kernel)) ggX2_firstFault_X2_fitsAt
end
section
theorem dX2_firstFault_0 : decode cX2_firstFault 0 = .ok (.iconst 0, 1) := by decide +kernel
theorem dX2_firstFault_1 : decode cX2_firstFault 1 = .ok (.istore_n 1, 1) := by decide +kernel
theorem dX2_firstFault_2 : decode cX2_firstFault 2 = .ok (.iload_n 1, 1) := by decide +kernel
theorem dX2_firstFault_3 : decode cX2_firstFault 3 = .ok (.aload_n 0, 1) := by decide +kernel
theorem dX2_firstFault_4 : decode cX2_firstFault 4 = .ok (.getfield 15, 3) := by decide +kernel
theorem dX2_firstFault_7 : decode cX2_firstFault 7 = .ok (.if_icmp .ge 19, 3) := by decide +kernel
theorem dX2_firstFault_10 : decode cX2_firstFault 10 = .ok (.aload_n 0, 1) := by decide +kernel
theorem dX2_firstFault_11 : decode cX2_firstFault 11 = .ok (.iload_n 1, 1) := by decide +kernel
theorem dX2_firstFault_12 : decode cX2_firstFault 12 = .ok (.invokevirtual 24, 3) := by decide +kernel
theorem dX2_firstFault_15 : decode cX2_firstFault 15 = .ok (.ifCond .ne 5, 3) := by decide +kernel
theorem dX2_firstFault_18 : decode cX2_firstFault 18 = .ok (.iload_n 1, 1) := by decide +kernel
theorem dX2_firstFault_19 : decode cX2_firstFault 19 = .ok (.ireturn, 1) := by decide +kernel
theorem dX2_firstFault_20 : decode cX2_firstFault 20 = .ok (.iinc 1 1, 3) := by decide +kernel
theorem dX2_firstFault_23 : decode cX2_firstFault 23 = .ok (.goto (-21), 3) := by decide +kernel
theorem dX2_firstFault_26 : decode cX2_firstFault 26 = .ok (.aload_n 0, 1) := by decide +kernel
theorem dX2_firstFault_27 : decode cX2_firstFault 27 = .ok (.getfield 15, 3) := by decide +kernel
theorem dX2_firstFault_30 : decode cX2_firstFault 30 = .ok (.ireturn, 1) := by decide +kernel
set_option maxRecDepth 20000 in
theorem ggX2_isNet_X2_firstFault : GoodIn wsX2_isNet wsX2_firstFault := goodIn_r _ [6, 1, 7, 8, 9, 5, 10, 11, 12, 13, 14, 15, 16, 17, 18, 19, 20, 21, 22, 23, 24, 25, 26, 27, 28, 29, 30, 31, 32, 33] (by decide +kernel) (by decide +kernel)
set_option maxRecDepth 20000 in
theorem gX2_isNet_X2_firstFault : GoodIn wsX2_isNet (wsV RX2 28 RX2 yX2_firstFault wsX2_firstFault) := goodIn_app (goodIn_of _ (by decide +kernel)) ggX2_isNet_X2_firstFault
theorem dX2_isNet_0 : decode cX2_isNet 0 = .ok (.aload_n 0, 1) := by decide +kernel
theorem dX2_isNet_1 : decode cX2_isNet 1 = .ok (.getfield 15, 3) := by decide +kernel
theorem dX2_isNet_4 : decode cX2_isNet 4 = .ok (.iconst 4, 1) := by decide +kernel
theorem dX2_isNet_5 : decode cX2_isNet 5 = .ok (.if_icmp .le 28, 3) := by decide +kernel
theorem dX2_isNet_8 : decode cX2_isNet 8 = .ok (.aload_n 0, 1) := by decide +kernel
theorem dX2_isNet_9 : decode cX2_isNet 9 = .ok (.getfield 15, 3) := by decide +kernel
theorem dX2_isNet_12 : decode cX2_isNet 12 = .ok (.iconst 4, 1) := by decide +kernel
theorem dX2_isNet_13 : decode cX2_isNet 13 = .ok (.irem, 1) := by decide +kernel
theorem dX2_isNet_14 : decode cX2_isNet 14 = .ok (.iconst 1, 1) := by decide +kernel
theorem dX2_isNet_15 : decode cX2_isNet 15 = .ok (.if_icmp .ne 18, 3) := by decide +kernel
theorem dX2_isNet_18 : decode cX2_isNet 18 = .ok (.aload_n 0, 1) := by decide +kernel
theorem dX2_isNet_19 : decode cX2_isNet 19 = .ok (.invokevirtual 28, 3) := by decide +kernel
theorem dX2_isNet_22 : decode cX2_isNet 22 = .ok (.aload_n 0, 1) := by decide +kernel
theorem dX2_isNet_23 : decode cX2_isNet 23 = .ok (.getfield 15, 3) := by decide +kernel
theorem dX2_isNet_26 : decode cX2_isNet 26 = .ok (.if_icmp .ne 7, 3) := by decide +kernel
theorem dX2_isNet_29 : decode cX2_isNet 29 = .ok (.iconst 1, 1) := by decide +kernel
theorem dX2_isNet_30 : decode cX2_isNet 30 = .ok (.goto 4, 3) := by decide +kernel
theorem dX2_isNet_33 : decode cX2_isNet 33 = .ok (.iconst 0, 1) := by decide +kernel
theorem dX2_isNet_34 : decode cX2_isNet 34 = .ok (.ireturn, 1) := by decide +kernel
theorem dX2_howManyLinks_0 : decode cX2_howManyLinks 0 = .ok (.aload_n 0, 1) := by decide +kernel
theorem dX2_howManyLinks_1 : decode cX2_howManyLinks 1 = .ok (.getfield 15, 3) := by decide +kernel
theorem dX2_howManyLinks_4 : decode cX2_howManyLinks 4 = .ok (.iconst 1, 1) := by decide +kernel
theorem dX2_howManyLinks_5 : decode cX2_howManyLinks 5 = .ok (.isub, 1) := by decide +kernel
theorem dX2_howManyLinks_6 : decode cX2_howManyLinks 6 = .ok (.iconst 4, 1) := by decide +kernel
theorem dX2_howManyLinks_7 : decode cX2_howManyLinks 7 = .ok (.idiv, 1) := by decide +kernel
theorem dX2_howManyLinks_8 : decode cX2_howManyLinks 8 = .ok (.ireturn, 1) := by decide +kernel
theorem dX2_placeOfLink_0 : decode cX2_placeOfLink 0 = .ok (.iconst 2, 1) := by decide +kernel
theorem dX2_placeOfLink_1 : decode cX2_placeOfLink 1 = .ok (.iconst 4, 1) := by decide +kernel
theorem dX2_placeOfLink_2 : decode cX2_placeOfLink 2 = .ok (.iload_n 0, 1) := by decide +kernel
theorem dX2_placeOfLink_3 : decode cX2_placeOfLink 3 = .ok (.imul, 1) := by decide +kernel
theorem dX2_placeOfLink_4 : decode cX2_placeOfLink 4 = .ok (.iadd, 1) := by decide +kernel
theorem dX2_placeOfLink_5 : decode cX2_placeOfLink 5 = .ok (.ireturn, 1) := by decide +kernel
set_option maxRecDepth 20000 in
theorem ggX2_fitsAt_X2_digitAt : GoodIn wsX2_fitsAt wsX2_digitAt := goodIn_r _ [5, 6, 7, 8, 4, 9, 10, 11, 12, 24, 25] (by decide +kernel) (by decide +kernel)
set_option maxRecDepth 20000 in
theorem gX2_fitsAt_X2_digitAt : GoodIn wsX2_fitsAt (wsV RX2 32 RX2 yX2_digitAt wsX2_digitAt) := goodIn_app (goodIn_of _ (by decide +kernel)) ggX2_fitsAt_X2_digitAt
set_option maxRecDepth 20000 in
theorem ggX2_fitsAt_X2_letterAt : GoodIn wsX2_fitsAt wsX2_letterAt := goodIn_r _ [9, 10, 11, 12, 24, 25] (by decide +kernel) (by decide +kernel)
set_option maxRecDepth 20000 in
theorem gX2_fitsAt_X2_letterAt : GoodIn wsX2_fitsAt (wsV RX2 20 RX2 yX2_letterAt wsX2_letterAt) := goodIn_app (goodIn_of _ (by decide +kernel)) ggX2_fitsAt_X2_letterAt
set_option maxRecDepth 20000 in
theorem ggX2_fitsAt_X2_isNode : GoodIn wsX2_fitsAt wsX2_isNode := goodIn_r _ [16, 1, 2, 3, 4, 5, 6, 7, 8, 9, 10, 11, 12, 24, 25] (by decide +kernel) (by decide +kernel)
set_option maxRecDepth 20000 in
theorem gX2_fitsAt_X2_isNode : GoodIn wsX2_fitsAt (wsV RX2 35 RX2 yX2_isNode wsX2_isNode) := goodIn_app (goodIn_of _ (by decide +kernel)) ggX2_fitsAt_X2_isNode
set_option maxRecDepth 20000 in
theorem ggX2_fitsAt_X2_isNewLink : GoodIn wsX2_fitsAt wsX2_isNewLink := goodIn_r _ [20, 1, 2, 3, 4, 5, 6, 7, 8, 9, 10, 11, 12, 21, 22, 23, 24, 25] (by decide +kernel) (by decide +kernel)
set_option maxRecDepth 20000 in
theorem gX2_fitsAt_X2_isNewLink : GoodIn wsX2_fitsAt (wsV RX2 38 RX2 yX2_isNewLink wsX2_isNewLink) := goodIn_app (goodIn_of _ (by decide +kernel)) ggX2_fitsAt_X2_isNewLink
theorem dX2_fitsAt_0 : decode cX2_fitsAt 0 = .ok (.aload_n 0, 1) := by decide +kernel
theorem dX2_fitsAt_1 : decode cX2_fitsAt 1 = .ok (.iload_n 1, 1) := by decide +kernel
theorem dX2_fitsAt_2 : decode cX2_fitsAt 2 = .ok (.invokevirtual 32, 3) := by decide +kernel
theorem dX2_fitsAt_5 : decode cX2_fitsAt 5 = .ok (.istore_n 2, 1) := by decide +kernel
theorem dX2_fitsAt_6 : decode cX2_fitsAt 6 = .ok (.iload_n 1, 1) := by decide +kernel
theorem dX2_fitsAt_7 : decode cX2_fitsAt 7 = .ok (.ifCond .ne 20, 3) := by decide +kernel
theorem dX2_fitsAt_10 : decode cX2_fitsAt 10 = .ok (.iload_n 2, 1) := by decide +kernel
theorem dX2_fitsAt_11 : decode cX2_fitsAt 11 = .ok (.iconst 2, 1) := by decide +kernel
theorem dX2_fitsAt_12 : decode cX2_fitsAt 12 = .ok (.if_icmp .lt 13, 3) := by decide +kernel
theorem dX2_fitsAt_15 : decode cX2_fitsAt 15 = .ok (.iload_n 2, 1) := by decide +kernel
theorem dX2_fitsAt_16 : decode cX2_fitsAt 16 = .ok (.bipush 6, 2) := by decide +kernel
theorem dX2_fitsAt_18 : decode cX2_fitsAt 18 = .ok (.if_icmp .gt 7, 3) := by decide +kernel
theorem dX2_fitsAt_21 : decode cX2_fitsAt 21 = .ok (.iconst 1, 1) := by decide +kernel
theorem dX2_fitsAt_22 : decode cX2_fitsAt 22 = .ok (.goto 4, 3) := by decide +kernel
theorem dX2_fitsAt_25 : decode cX2_fitsAt 25 = .ok (.iconst 0, 1) := by decide +kernel
theorem dX2_fitsAt_26 : decode cX2_fitsAt 26 = .ok (.ireturn, 1) := by decide +kernel
theorem dX2_fitsAt_27 : decode cX2_fitsAt 27 = .ok (.iload_n 1, 1) := by decide +kernel
theorem dX2_fitsAt_28 : decode cX2_fitsAt 28 = .ok (.iconst 4, 1) := by decide +kernel
theorem dX2_fitsAt_29 : decode cX2_fitsAt 29 = .ok (.irem, 1) := by decide +kernel
theorem dX2_fitsAt_30 : decode cX2_fitsAt 30 = .ok (.tableswitch 70 1 3 #[26, 42, 48], 26) := by decide +kernel
theorem dX2_fitsAt_56 : decode cX2_fitsAt 56 = .ok (.aload_n 0, 1) := by decide +kernel
theorem dX2_fitsAt_57 : decode cX2_fitsAt 57 = .ok (.iload_n 1, 1) := by decide +kernel
theorem dX2_fitsAt_58 : decode cX2_fitsAt 58 = .ok (.invokevirtual 20, 3) := by decide +kernel
theorem dX2_fitsAt_61 : decode cX2_fitsAt 61 = .ok (.bipush 44, 2) := by decide +kernel
theorem dX2_fitsAt_63 : decode cX2_fitsAt 63 = .ok (.if_icmp .ne 7, 3) := by decide +kernel
theorem dX2_fitsAt_66 : decode cX2_fitsAt 66 = .ok (.iconst 1, 1) := by decide +kernel
theorem dX2_fitsAt_67 : decode cX2_fitsAt 67 = .ok (.goto 4, 3) := by decide +kernel
theorem dX2_fitsAt_70 : decode cX2_fitsAt 70 = .ok (.iconst 0, 1) := by decide +kernel
theorem dX2_fitsAt_71 : decode cX2_fitsAt 71 = .ok (.ireturn, 1) := by decide +kernel
theorem dX2_fitsAt_72 : decode cX2_fitsAt 72 = .ok (.aload_n 0, 1) := by decide +kernel
theorem dX2_fitsAt_73 : decode cX2_fitsAt 73 = .ok (.iload_n 2, 1) := by decide +kernel
theorem dX2_fitsAt_74 : decode cX2_fitsAt 74 = .ok (.invokevirtual 35, 3) := by decide +kernel
theorem dX2_fitsAt_77 : decode cX2_fitsAt 77 = .ok (.ireturn, 1) := by decide +kernel
theorem dX2_fitsAt_78 : decode cX2_fitsAt 78 = .ok (.aload_n 0, 1) := by decide +kernel
theorem dX2_fitsAt_79 : decode cX2_fitsAt 79 = .ok (.iload_n 2, 1) := by decide +kernel
theorem dX2_fitsAt_80 : decode cX2_fitsAt 80 = .ok (.invokevirtual 35, 3) := by decide +kernel
theorem dX2_fitsAt_83 : decode cX2_fitsAt 83 = .ok (.ifCond .eq 15, 3) := by decide +kernel
theorem dX2_fitsAt_86 : decode cX2_fitsAt 86 = .ok (.aload_n 0, 1) := by decide +kernel
theorem dX2_fitsAt_87 : decode cX2_fitsAt 87 = .ok (.iload_n 1, 1) := by decide +kernel
theorem dX2_fitsAt_88 : decode cX2_fitsAt 88 = .ok (.invokevirtual 38, 3) := by decide +kernel
theorem dX2_fitsAt_91 : decode cX2_fitsAt 91 = .ok (.ifCond .eq 7, 3) := by decide +kernel
theorem dX2_fitsAt_94 : decode cX2_fitsAt 94 = .ok (.iconst 1, 1) := by decide +kernel
theorem dX2_fitsAt_95 : decode cX2_fitsAt 95 = .ok (.goto 4, 3) := by decide +kernel
theorem dX2_fitsAt_98 : decode cX2_fitsAt 98 = .ok (.iconst 0, 1) := by decide +kernel
theorem dX2_fitsAt_99 : decode cX2_fitsAt 99 = .ok (.ireturn, 1) := by decide +kernel
theorem dX2_fitsAt_100 : decode cX2_fitsAt 100 = .ok (.iload_n 2, 1) := by decide +kernel
theorem dX2_fitsAt_101 : decode cX2_fitsAt 101 = .ok (.ifCond .lt 12, 3) := by decide +kernel
theorem dX2_fitsAt_104 : decode cX2_fitsAt 104 = .ok (.iload_n 2, 1) := by decide +kernel
theorem dX2_fitsAt_105 : decode cX2_fitsAt 105 = .ok (.iconst 3, 1) := by decide +kernel
theorem dX2_fitsAt_106 : decode cX2_fitsAt 106 = .ok (.if_icmp .gt 7, 3) := by decide +kernel
theorem dX2_fitsAt_109 : decode cX2_fitsAt 109 = .ok (.iconst 1, 1) := by decide +kernel
theorem dX2_fitsAt_110 : decode cX2_fitsAt 110 = .ok (.goto 4, 3) := by decide +kernel
theorem dX2_fitsAt_113 : decode cX2_fitsAt 113 = .ok (.iconst 0, 1) := by decide +kernel
theorem dX2_fitsAt_114 : decode cX2_fitsAt 114 = .ok (.ireturn, 1) := by decide +kernel
set_option maxRecDepth 20000 in
theorem ggX2_isNode_X2_digitAt : GoodIn wsX2_isNode wsX2_digitAt := goodIn_r _ [5, 6, 7, 8, 4, 9, 10, 11, 12, 13, 14] (by decide +kernel) (by decide +kernel)
set_option maxRecDepth 20000 in
theorem gX2_isNode_X2_digitAt : GoodIn wsX2_isNode (wsV RX2 32 RX2 yX2_digitAt wsX2_digitAt) := goodIn_app (goodIn_of _ (by decide +kernel)) ggX2_isNode_X2_digitAt
theorem dX2_isNode_0 : decode cX2_isNode 0 = .ok (.iload_n 1, 1) := by decide +kernel
theorem dX2_isNode_1 : decode cX2_isNode 1 = .ok (.ifCond .lt 16, 3) := by decide +kernel
theorem dX2_isNode_4 : decode cX2_isNode 4 = .ok (.iload_n 1, 1) := by decide +kernel
theorem dX2_isNode_5 : decode cX2_isNode 5 = .ok (.aload_n 0, 1) := by decide +kernel
theorem dX2_isNode_6 : decode cX2_isNode 6 = .ok (.iconst 0, 1) := by decide +kernel
theorem dX2_isNode_7 : decode cX2_isNode 7 = .ok (.invokevirtual 32, 3) := by decide +kernel
theorem dX2_isNode_10 : decode cX2_isNode 10 = .ok (.if_icmp .ge 7, 3) := by decide +kernel
theorem dX2_isNode_13 : decode cX2_isNode 13 = .ok (.iconst 1, 1) := by decide +kernel
theorem dX2_isNode_14 : decode cX2_isNode 14 = .ok (.goto 4, 3) := by decide +kernel
theorem dX2_isNode_17 : decode cX2_isNode 17 = .ok (.iconst 0, 1) := by decide +kernel
theorem dX2_isNode_18 : decode cX2_isNode 18 = .ok (.ireturn, 1) := by decide +kernel
set_option maxRecDepth 20000 in
theorem ggX2_isNewLink_X2_digitAt : GoodIn wsX2_isNewLink wsX2_digitAt := goodIn_r _ [5, 6, 7, 8, 4, 9, 10, 11, 12, 16, 17] (by decide +kernel) (by decide +kernel)
set_option maxRecDepth 20000 in
theorem gX2_isNewLink_X2_digitAt : GoodIn wsX2_isNewLink (wsV RX2 32 RX2 yX2_digitAt wsX2_digitAt) := goodIn_app (goodIn_of _ (by decide +kernel)) ggX2_isNewLink_X2_digitAt
set_option maxRecDepth 20000 in
theorem ggX2_isNewLink_X2_placeOfLink : GoodIn wsX2_isNewLink wsX2_placeOfLink := goodIn_r _ [15] (by decide +kernel) (by decide +kernel)
set_option maxRecDepth 20000 in
theorem gX2_isNewLink_X2_placeOfLink : GoodIn wsX2_isNewLink (va_wsS RX2 41 yX2_placeOfLink wsX2_placeOfLink) := goodIn_app (goodIn_of _ (by decide +kernel)) ggX2_isNewLink_X2_placeOfLink
theorem dX2_isNewLink_0 : decode cX2_isNewLink 0 = .ok (.aload_n 0, 1) := by decide +kernel
theorem dX2_isNewLink_1 : decode cX2_isNewLink 1 = .ok (.iload_n 1, 1) := by decide +kernel
theorem dX2_isNewLink_2 : decode cX2_isNewLink 2 = .ok (.iconst 1, 1) := by decide +kernel
theorem dX2_isNewLink_3 : decode cX2_isNewLink 3 = .ok (.isub, 1) := by decide +kernel
theorem dX2_isNewLink_4 : decode cX2_isNewLink 4 = .ok (.invokevirtual 32, 3) := by decide +kernel
theorem dX2_isNewLink_7 : decode cX2_isNewLink 7 = .ok (.istore_n 2, 1) := by decide +kernel
theorem dX2_isNewLink_8 : decode cX2_isNewLink 8 = .ok (.aload_n 0, 1) := by decide +kernel
theorem dX2_isNewLink_9 : decode cX2_isNewLink 9 = .ok (.iload_n 1, 1) := by decide +kernel
theorem dX2_isNewLink_10 : decode cX2_isNewLink 10 = .ok (.invokevirtual 32, 3) := by decide +kernel
theorem dX2_isNewLink_13 : decode cX2_isNewLink 13 = .ok (.istore_n 3, 1) := by decide +kernel
theorem dX2_isNewLink_14 : decode cX2_isNewLink 14 = .ok (.iload_n 2, 1) := by decide +kernel
theorem dX2_isNewLink_15 : decode cX2_isNewLink 15 = .ok (.iload_n 3, 1) := by decide +kernel
theorem dX2_isNewLink_16 : decode cX2_isNewLink 16 = .ok (.if_icmp .ne 5, 3) := by decide +kernel
theorem dX2_isNewLink_19 : decode cX2_isNewLink 19 = .ok (.iconst 0, 1) := by decide +kernel
theorem dX2_isNewLink_20 : decode cX2_isNewLink 20 = .ok (.ireturn, 1) := by decide +kernel
theorem dX2_isNewLink_21 : decode cX2_isNewLink 21 = .ok (.iconst 0, 1) := by decide +kernel
theorem dX2_isNewLink_22 : decode cX2_isNewLink 22 = .ok (.invokestatic 41, 3) := by decide +kernel
theorem dX2_isNewLink_25 : decode cX2_isNewLink 25 = .ok (.istore 4, 2) := by decide +kernel
theorem dX2_isNewLink_27 : decode cX2_isNewLink 27 = .ok (.iload 4, 2) := by decide +kernel
theorem dX2_isNewLink_29 : decode cX2_isNewLink 29 = .ok (.iload_n 1, 1) := by decide +kernel
theorem dX2_isNewLink_30 : decode cX2_isNewLink 30 = .ok (.iconst 1, 1) := by decide +kernel
theorem dX2_isNewLink_31 : decode cX2_isNewLink 31 = .ok (.isub, 1) := by decide +kernel
theorem dX2_isNewLink_32 : decode cX2_isNewLink 32 = .ok (.if_icmp .ge 53, 3) := by decide +kernel
theorem dX2_isNewLink_35 : decode cX2_isNewLink 35 = .ok (.aload_n 0, 1) := by decide +kernel
theorem dX2_isNewLink_36 : decode cX2_isNewLink 36 = .ok (.iload 4, 2) := by decide +kernel
theorem dX2_isNewLink_38 : decode cX2_isNewLink 38 = .ok (.invokevirtual 32, 3) := by decide +kernel
theorem dX2_isNewLink_41 : decode cX2_isNewLink 41 = .ok (.istore 5, 2) := by decide +kernel
theorem dX2_isNewLink_43 : decode cX2_isNewLink 43 = .ok (.aload_n 0, 1) := by decide +kernel
theorem dX2_isNewLink_44 : decode cX2_isNewLink 44 = .ok (.iload 4, 2) := by decide +kernel
theorem dX2_isNewLink_46 : decode cX2_isNewLink 46 = .ok (.iconst 1, 1) := by decide +kernel
theorem dX2_isNewLink_47 : decode cX2_isNewLink 47 = .ok (.iadd, 1) := by decide +kernel
theorem dX2_isNewLink_48 : decode cX2_isNewLink 48 = .ok (.invokevirtual 32, 3) := by decide +kernel
theorem dX2_isNewLink_51 : decode cX2_isNewLink 51 = .ok (.istore 6, 2) := by decide +kernel
theorem dX2_isNewLink_53 : decode cX2_isNewLink 53 = .ok (.iload 5, 2) := by decide +kernel
theorem dX2_isNewLink_55 : decode cX2_isNewLink 55 = .ok (.iload_n 2, 1) := by decide +kernel
theorem dX2_isNewLink_56 : decode cX2_isNewLink 56 = .ok (.if_icmp .ne 9, 3) := by decide +kernel
theorem dX2_isNewLink_59 : decode cX2_isNewLink 59 = .ok (.iload 6, 2) := by decide +kernel
theorem dX2_isNewLink_61 : decode cX2_isNewLink 61 = .ok (.iload_n 3, 1) := by decide +kernel
theorem dX2_isNewLink_62 : decode cX2_isNewLink 62 = .ok (.if_icmp .eq 15, 3) := by decide +kernel
theorem dX2_isNewLink_65 : decode cX2_isNewLink 65 = .ok (.iload 5, 2) := by decide +kernel
theorem dX2_isNewLink_67 : decode cX2_isNewLink 67 = .ok (.iload_n 3, 1) := by decide +kernel
theorem dX2_isNewLink_68 : decode cX2_isNewLink 68 = .ok (.if_icmp .ne 11, 3) := by decide +kernel
theorem dX2_isNewLink_71 : decode cX2_isNewLink 71 = .ok (.iload 6, 2) := by decide +kernel
theorem dX2_isNewLink_73 : decode cX2_isNewLink 73 = .ok (.iload_n 2, 1) := by decide +kernel
theorem dX2_isNewLink_74 : decode cX2_isNewLink 74 = .ok (.if_icmp .ne 5, 3) := by decide +kernel
theorem dX2_isNewLink_77 : decode cX2_isNewLink 77 = .ok (.iconst 0, 1) := by decide +kernel
theorem dX2_isNewLink_78 : decode cX2_isNewLink 78 = .ok (.ireturn, 1) := by decide +kernel
theorem dX2_isNewLink_79 : decode cX2_isNewLink 79 = .ok (.iinc 4 4, 3) := by decide +kernel
theorem dX2_isNewLink_82 : decode cX2_isNewLink 82 = .ok (.goto (-55), 3) := by decide +kernel
theorem dX2_isNewLink_85 : decode cX2_isNewLink 85 = .ok (.iconst 1, 1) := by decide +kernel
theorem dX2_isNewLink_86 : decode cX2_isNewLink 86 = .ok (.ireturn, 1) := by decide +kernel
set_option maxRecDepth 20000 in
theorem ggX3_init_X2_init : GoodIn wsX3_init wsX2_init := goodIn_r _ [24, 25, 2, 3, 26, 27, 28, 53, 54] (by decide +kernel) (by decide +kernel)
set_option maxRecDepth 20000 in
theorem gX3_init_X2_init_n9 : GoodIn wsX3_init (wsX2_init) := ggX3_init_X2_init
set_option maxRecDepth 20000 in
theorem ggX3_init_X1_init : GoodIn wsX3_init wsX1_init := goodIn_r _ [30, 31, 2, 3, 26, 32, 33, 34, 35, 36, 65, 66, 67, 68, 69] (by decide +kernel) (by decide +kernel)
set_option maxRecDepth 20000 in
theorem gX3_init_X1_init_n18 : GoodIn wsX3_init (wsX1_init) := ggX3_init_X1_init
set_option maxRecDepth 20000 in
theorem ggX3_init_X0_init : GoodIn wsX3_init wsX0_init := goodIn_r _ [39, 40, 2, 3, 26, 41, 42, 43, 44, 45, 46, 47, 48, 49, 50, 51, 52, 70, 71, 72, 73, 74, 75, 76, 77, 78, 79, 80] (by decide +kernel) (by decide +kernel)
set_option maxRecDepth 20000 in
theorem gX3_init_X0_init : GoodIn wsX3_init (wsX0_init) := ggX3_init_X0_init
theorem dX3_init_0 : decode cX3_init 0 = .ok (.aload_n 0, 1) := by decide +kernel
theorem dX3_init_1 : decode cX3_init 1 = .ok (.invokespecial 1, 3) := by decide +kernel
theorem dX3_init_4 : decode cX3_init 4 = .ok (.aload_n 0, 1) := by decide +kernel
theorem dX3_init_5 : decode cX3_init 5 = .ok (.new 7, 3) := by decide +kernel
theorem dX3_init_8 : decode cX3_init 8 = .ok (.dup, 1) := by decide +kernel
theorem dX3_init_9 : decode cX3_init 9 = .ok (.invokespecial 9, 3) := by decide +kernel
theorem dX3_init_12 : decode cX3_init 12 = .ok (.putfield 10, 3) := by decide +kernel
theorem dX3_init_15 : decode cX3_init 15 = .ok (.aload_n 0, 1) := by decide +kernel
theorem dX3_init_16 : decode cX3_init 16 = .ok (.new 16, 3) := by decide +kernel
theorem dX3_init_19 : decode cX3_init 19 = .ok (.dup, 1) := by decide +kernel
theorem dX3_init_20 : decode cX3_init 20 = .ok (.invokespecial 18, 3) := by decide +kernel
theorem dX3_init_23 : decode cX3_init 23 = .ok (.putfield 19, 3) := by decide +kernel
theorem dX3_init_26 : decode cX3_init 26 = .ok (.aload_n 0, 1) := by decide +kernel
theorem dX3_init_27 : decode cX3_init 27 = .ok (.new 23, 3) := by decide +kernel
theorem dX3_init_30 : decode cX3_init 30 = .ok (.dup, 1) := by decide +kernel
theorem dX3_init_31 : decode cX3_init 31 = .ok (.aload_n 0, 1) := by decide +kernel
theorem dX3_init_32 : decode cX3_init 32 = .ok (.getfield 19, 3) := by decide +kernel
theorem dX3_init_35 : decode cX3_init 35 = .ok (.invokespecial 25, 3) := by decide +kernel
theorem dX3_init_38 : decode cX3_init 38 = .ok (.putfield 28, 3) := by decide +kernel
theorem dX3_init_41 : decode cX3_init 41 = .ok (.aload_n 0, 1) := by decide +kernel
theorem dX3_init_42 : decode cX3_init 42 = .ok (.new 23, 3) := by decide +kernel
theorem dX3_init_45 : decode cX3_init 45 = .ok (.dup, 1) := by decide +kernel
theorem dX3_init_46 : decode cX3_init 46 = .ok (.aload_n 0, 1) := by decide +kernel
theorem dX3_init_47 : decode cX3_init 47 = .ok (.getfield 19, 3) := by decide +kernel
theorem dX3_init_50 : decode cX3_init 50 = .ok (.invokespecial 25, 3) := by decide +kernel
theorem dX3_init_53 : decode cX3_init 53 = .ok (.putfield 32, 3) := by decide +kernel
theorem dX3_init_56 : decode cX3_init 56 = .ok (.aload_n 0, 1) := by decide +kernel
theorem dX3_init_57 : decode cX3_init 57 = .ok (.new 23, 3) := by decide +kernel
theorem dX3_init_60 : decode cX3_init 60 = .ok (.dup, 1) := by decide +kernel
theorem dX3_init_61 : decode cX3_init 61 = .ok (.aload_n 0, 1) := by decide +kernel
theorem dX3_init_62 : decode cX3_init 62 = .ok (.getfield 19, 3) := by decide +kernel
theorem dX3_init_65 : decode cX3_init 65 = .ok (.invokespecial 25, 3) := by decide +kernel
theorem dX3_init_68 : decode cX3_init 68 = .ok (.putfield 35, 3) := by decide +kernel
theorem dX3_init_71 : decode cX3_init 71 = .ok (.aload_n 0, 1) := by decide +kernel
theorem dX3_init_72 : decode cX3_init 72 = .ok (.iconst 0, 1) := by decide +kernel
theorem dX3_init_73 : decode cX3_init 73 = .ok (.putfield 38, 3) := by decide +kernel
theorem dX3_init_76 : decode cX3_init 76 = .ok (.aload_n 0, 1) := by decide +kernel
theorem dX3_init_77 : decode cX3_init 77 = .ok (.bipush 20, 2) := by decide +kernel
theorem dX3_init_79 : decode cX3_init 79 = .ok (.putfield 42, 3) := by decide +kernel
theorem dX3_init_82 : decode cX3_init 82 = .ok (.aload_n 0, 1) := by decide +kernel
theorem dX3_init_83 : decode cX3_init 83 = .ok (.bipush 10, 2) := by decide +kernel
theorem dX3_init_85 : decode cX3_init 85 = .ok (.putfield 46, 3) := by decide +kernel
theorem dX3_init_88 : decode cX3_init 88 = .ok (.aload_n 0, 1) := by decide +kernel
theorem dX3_init_89 : decode cX3_init 89 = .ok (.iconst 0, 1) := by decide +kernel
theorem dX3_init_90 : decode cX3_init 90 = .ok (.putfield 49, 3) := by decide +kernel
theorem dX3_init_93 : decode cX3_init 93 = .ok (.aload_n 0, 1) := by decide +kernel
theorem dX3_init_94 : decode cX3_init 94 = .ok (.iconst 0, 1) := by decide +kernel
theorem dX3_init_95 : decode cX3_init 95 = .ok (.putfield 52, 3) := by decide +kernel
theorem dX3_init_98 : decode cX3_init 98 = .ok (.return_, 1) := by decide +kernel
set_option maxRecDepth 20000 in
theorem ggX3_letter_X2_isFull : GoodIn wsX3_letter wsX2_isFull := goodIn_r _ [8, 9, 25, 26] (by decide +kernel) (by decide +kernel)
set_option maxRecDepth 20000 in
theorem gX3_letter_X2_isFull : GoodIn wsX3_letter (wsV RX3 56 RX2 yX2_isFull wsX2_isFull) := goodIn_app (goodIn_of _ (by decide +kernel)) ggX3_letter_X2_isFull
set_option maxRecDepth 20000 in
theorem ggX3_letter_X2_append : GoodIn wsX3_letter wsX2_append := goodIn_r _ [13, 9, 14, 25, 26] (by decide +kernel) (by decide +kernel)
set_option maxRecDepth 20000 in
theorem gX3_letter_X2_append : GoodIn wsX3_letter (wsV RX3 61 RX2 yX2_append wsX2_append) := goodIn_app (goodIn_of _ (by decide +kernel)) ggX3_letter_X2_append
theorem dX3_letter_0 : decode cX3_letter 0 = .ok (.iload_n 1, 1) := by decide +kernel
theorem dX3_letter_1 : decode cX3_letter 1 = .ok (.bipush 32, 2) := by decide +kernel
theorem dX3_letter_3 : decode cX3_letter 3 = .ok (.if_icmp .lt 9, 3) := by decide +kernel
theorem dX3_letter_6 : decode cX3_letter 6 = .ok (.iload_n 1, 1) := by decide +kernel
theorem dX3_letter_7 : decode cX3_letter 7 = .ok (.bipush 126, 2) := by decide +kernel
theorem dX3_letter_9 : decode cX3_letter 9 = .ok (.if_icmp .le 6, 3) := by decide +kernel
theorem dX3_letter_12 : decode cX3_letter 12 = .ok (.ldc 55, 2) := by decide +kernel
theorem dX3_letter_14 : decode cX3_letter 14 = .ok (.ireturn, 1) := by decide +kernel
theorem dX3_letter_15 : decode cX3_letter 15 = .ok (.aload_n 0, 1) := by decide +kernel
theorem dX3_letter_16 : decode cX3_letter 16 = .ok (.getfield 10, 3) := by decide +kernel
theorem dX3_letter_19 : decode cX3_letter 19 = .ok (.invokevirtual 56, 3) := by decide +kernel
theorem dX3_letter_22 : decode cX3_letter 22 = .ok (.ifCond .eq 6, 3) := by decide +kernel
theorem dX3_letter_25 : decode cX3_letter 25 = .ok (.ldc 60, 2) := by decide +kernel
theorem dX3_letter_27 : decode cX3_letter 27 = .ok (.ireturn, 1) := by decide +kernel
theorem dX3_letter_28 : decode cX3_letter 28 = .ok (.aload_n 0, 1) := by decide +kernel
theorem dX3_letter_29 : decode cX3_letter 29 = .ok (.getfield 10, 3) := by decide +kernel
theorem dX3_letter_32 : decode cX3_letter 32 = .ok (.iload_n 1, 1) := by decide +kernel
theorem dX3_letter_33 : decode cX3_letter 33 = .ok (.invokevirtual 61, 3) := by decide +kernel
theorem dX3_letter_36 : decode cX3_letter 36 = .ok (.ireturn, 1) := by decide +kernel
set_option maxRecDepth 20000 in
theorem ggX3_blank_X2_empty : GoodIn wsX3_blank wsX2_empty := goodIn_r _ [6, 7, 18, 19] (by decide +kernel) (by decide +kernel)
set_option maxRecDepth 20000 in
theorem gX3_blank_X2_empty : GoodIn wsX3_blank (wsV RX3 65 RX2 yX2_empty wsX2_empty) := goodIn_app (goodIn_of _ (by decide +kernel)) ggX3_blank_X2_empty
theorem dX3_blank_0 : decode cX3_blank 0 = .ok (.aload_n 0, 1) := by decide +kernel
theorem dX3_blank_1 : decode cX3_blank 1 = .ok (.getfield 10, 3) := by decide +kernel
theorem dX3_blank_4 : decode cX3_blank 4 = .ok (.invokevirtual 65, 3) := by decide +kernel
theorem dX3_blank_7 : decode cX3_blank 7 = .ok (.ireturn, 1) := by decide +kernel
set_option maxRecDepth 20000 in
theorem ggX3_fault_X2_firstFault : GoodIn wsX3_fault wsX2_firstFault := goodIn_r _ [6, 7, 8, 9, 10, 5, 11, 12, 13, 14, 15, 16, 17, 18, 19, 20, 21, 22, 23, 24, 25, 26, 27, 28, 29, 30, 31, 32, 43, 44] (by decide +kernel) (by decide +kernel)
set_option maxRecDepth 20000 in
theorem gX3_fault_X2_firstFault : GoodIn wsX3_fault (wsV RX3 69 RX2 yX2_firstFault wsX2_firstFault) := goodIn_app (goodIn_of _ (by decide +kernel)) ggX3_fault_X2_firstFault
theorem dX3_fault_0 : decode cX3_fault 0 = .ok (.aload_n 0, 1) := by decide +kernel
theorem dX3_fault_1 : decode cX3_fault 1 = .ok (.getfield 10, 3) := by decide +kernel
theorem dX3_fault_4 : decode cX3_fault 4 = .ok (.invokevirtual 69, 3) := by decide +kernel
theorem dX3_fault_7 : decode cX3_fault 7 = .ok (.ireturn, 1) := by decide +kernel
set_option maxRecDepth 20000 in
theorem ggX3_net_X2_isNet : GoodIn wsX3_net wsX2_isNet := goodIn_r _ [11, 12, 13, 14, 15, 10, 16, 17, 18, 19, 20, 21, 22, 23, 24, 25, 26, 27, 28, 29, 30, 31, 32, 33, 34, 35, 36, 37, 38, 39, 40, 41, 128, 129] (by decide +kernel) (by decide +kernel)
set_option maxRecDepth 20000 in
theorem gX3_net_X2_isNet : GoodIn wsX3_net (wsV RX3 72 RX2 yX2_isNet wsX2_isNet) := goodIn_app (goodIn_of _ (by decide +kernel)) ggX3_net_X2_isNet
set_option maxRecDepth 20000 in
theorem ggX3_net_X1_readFrom : GoodIn wsX3_net wsX1_readFrom := goodIn_r _ [46, 47, 48, 49, 50, 51, 22, 23, 10, 24, 25, 26, 27, 28, 12, 29, 30, 52, 53, 54, 55, 56, 57, 58, 59, 40, 41, 60, 61, 62, 45, 63, 64, 65, 66, 67, 68, 69, 70, 71, 72, 73, 74, 75, 76, 77, 78, 79, 80, 123, 124, 125, 126, 127, 128, 129] (by decide +kernel) (by decide +kernel)
set_option maxRecDepth 20000 in
theorem gX3_net_X1_readFrom : GoodIn wsX3_net (wsV RX3 76 RX1 yX1_readFrom wsX1_readFrom) := goodIn_app (goodIn_of _ (by decide +kernel)) ggX3_net_X1_readFrom
set_option maxRecDepth 20000 in
theorem ggX3_net_X0_startFrom : GoodIn wsX3_net wsX0_startFrom := goodIn_r _ [85, 86, 87, 88, 89, 90, 91, 92, 93, 94, 95, 96, 97, 98, 40, 10, 41, 99, 22, 23, 24, 25, 26, 27, 28, 12, 29, 30, 100, 101, 102, 84, 103, 104, 105, 106, 107, 45, 108, 50, 64, 65, 66, 67, 47, 56, 57, 58, 130, 131, 132, 133, 134, 135, 136, 137, 138, 139, 140, 123, 124, 125, 126, 127, 128, 129] (by decide +kernel) (by decide +kernel)
set_option maxRecDepth 20000 in
theorem gX3_net_X0_startFrom : GoodIn wsX3_net (wsV RX3 80 RX0 yX0_startFrom wsX0_startFrom) := goodIn_app (goodIn_of _ (by decide +kernel)) ggX3_net_X0_startFrom
set_option maxRecDepth 20000 in
theorem ggX3_net_X2_empty : GoodIn wsX3_net wsX2_empty := goodIn_r _ [112, 12, 128, 129] (by decide +kernel) (by decide +kernel)
set_option maxRecDepth 20000 in
theorem gX3_net_X2_empty : GoodIn wsX3_net (wsV RX3 65 RX2 yX2_empty wsX2_empty) := goodIn_app (goodIn_of _ (by decide +kernel)) ggX3_net_X2_empty
theorem dX3_net_0 : decode cX3_net 0 = .ok (.aload_n 0, 1) := by decide +kernel
theorem dX3_net_1 : decode cX3_net 1 = .ok (.getfield 10, 3) := by decide +kernel
theorem dX3_net_4 : decode cX3_net 4 = .ok (.invokevirtual 72, 3) := by decide +kernel
theorem dX3_net_7 : decode cX3_net 7 = .ok (.ifCond .ne 6, 3) := by decide +kernel
theorem dX3_net_10 : decode cX3_net 10 = .ok (.ldc 75, 2) := by decide +kernel
theorem dX3_net_12 : decode cX3_net 12 = .ok (.ireturn, 1) := by decide +kernel
theorem dX3_net_13 : decode cX3_net 13 = .ok (.aload_n 0, 1) := by decide +kernel
theorem dX3_net_14 : decode cX3_net 14 = .ok (.getfield 19, 3) := by decide +kernel
theorem dX3_net_17 : decode cX3_net 17 = .ok (.aload_n 0, 1) := by decide +kernel
theorem dX3_net_18 : decode cX3_net 18 = .ok (.getfield 10, 3) := by decide +kernel
theorem dX3_net_21 : decode cX3_net 21 = .ok (.invokevirtual 76, 3) := by decide +kernel
theorem dX3_net_24 : decode cX3_net 24 = .ok (.aload_n 0, 1) := by decide +kernel
theorem dX3_net_25 : decode cX3_net 25 = .ok (.getfield 28, 3) := by decide +kernel
theorem dX3_net_28 : decode cX3_net 28 = .ok (.aload_n 0, 1) := by decide +kernel
theorem dX3_net_29 : decode cX3_net 29 = .ok (.getfield 10, 3) := by decide +kernel
theorem dX3_net_32 : decode cX3_net 32 = .ok (.invokevirtual 80, 3) := by decide +kernel
theorem dX3_net_35 : decode cX3_net 35 = .ok (.aload_n 0, 1) := by decide +kernel
theorem dX3_net_36 : decode cX3_net 36 = .ok (.iconst 0, 1) := by decide +kernel
theorem dX3_net_37 : decode cX3_net 37 = .ok (.putfield 38, 3) := by decide +kernel
theorem dX3_net_40 : decode cX3_net 40 = .ok (.aload_n 0, 1) := by decide +kernel
theorem dX3_net_41 : decode cX3_net 41 = .ok (.dup, 1) := by decide +kernel
theorem dX3_net_42 : decode cX3_net 42 = .ok (.getfield 49, 3) := by decide +kernel
theorem dX3_net_45 : decode cX3_net 45 = .ok (.iconst 1, 1) := by decide +kernel
theorem dX3_net_46 : decode cX3_net 46 = .ok (.iadd, 1) := by decide +kernel
theorem dX3_net_47 : decode cX3_net 47 = .ok (.putfield 49, 3) := by decide +kernel
theorem dX3_net_50 : decode cX3_net 50 = .ok (.aload_n 0, 1) := by decide +kernel
theorem dX3_net_51 : decode cX3_net 51 = .ok (.getfield 10, 3) := by decide +kernel
theorem dX3_net_54 : decode cX3_net 54 = .ok (.invokevirtual 65, 3) := by decide +kernel
theorem dX3_net_57 : decode cX3_net 57 = .ok (.pop, 1) := by decide +kernel
theorem dX3_net_58 : decode cX3_net 58 = .ok (.aload_n 0, 1) := by decide +kernel
theorem dX3_net_59 : decode cX3_net 59 = .ok (.getfield 19, 3) := by decide +kernel
theorem dX3_net_62 : decode cX3_net 62 = .ok (.getfield 83, 3) := by decide +kernel
theorem dX3_net_65 : decode cX3_net 65 = .ok (.ireturn, 1) := by decide +kernel
theorem dX3_set_0 : decode cX3_set 0 = .ok (.iload_n 1, 1) := by decide +kernel
theorem dX3_set_1 : decode cX3_set 1 = .ok (.ifCond .lt 29, 3) := by decide +kernel
theorem dX3_set_4 : decode cX3_set 4 = .ok (.iload_n 1, 1) := by decide +kernel
theorem dX3_set_5 : decode cX3_set 5 = .ok (.iconst 1, 1) := by decide +kernel
theorem dX3_set_6 : decode cX3_set 6 = .ok (.if_icmp .gt 24, 3) := by decide +kernel
theorem dX3_set_9 : decode cX3_set 9 = .ok (.iload_n 2, 1) := by decide +kernel
theorem dX3_set_10 : decode cX3_set 10 = .ok (.iconst 1, 1) := by decide +kernel
theorem dX3_set_11 : decode cX3_set 11 = .ok (.if_icmp .lt 19, 3) := by decide +kernel
theorem dX3_set_14 : decode cX3_set 14 = .ok (.iload_n 2, 1) := by decide +kernel
theorem dX3_set_15 : decode cX3_set 15 = .ok (.iload_n 1, 1) := by decide +kernel
theorem dX3_set_16 : decode cX3_set 16 = .ok (.ifCond .ne 9, 3) := by decide +kernel
theorem dX3_set_19 : decode cX3_set 19 = .ok (.sipush 500, 3) := by decide +kernel
theorem dX3_set_22 : decode cX3_set 22 = .ok (.goto 5, 3) := by decide +kernel
theorem dX3_set_25 : decode cX3_set 25 = .ok (.bipush 60, 2) := by decide +kernel
theorem dX3_set_27 : decode cX3_set 27 = .ok (.if_icmp .le 6, 3) := by decide +kernel
theorem dX3_set_30 : decode cX3_set 30 = .ok (.ldc 55, 2) := by decide +kernel
theorem dX3_set_32 : decode cX3_set 32 = .ok (.ireturn, 1) := by decide +kernel
theorem dX3_set_33 : decode cX3_set 33 = .ok (.iload_n 1, 1) := by decide +kernel
theorem dX3_set_34 : decode cX3_set 34 = .ok (.ifCond .ne 16, 3) := by decide +kernel
theorem dX3_set_37 : decode cX3_set 37 = .ok (.aload_n 0, 1) := by decide +kernel
theorem dX3_set_38 : decode cX3_set 38 = .ok (.getfield 42, 3) := by decide +kernel
theorem dX3_set_41 : decode cX3_set 41 = .ok (.istore_n 3, 1) := by decide +kernel
theorem dX3_set_42 : decode cX3_set 42 = .ok (.aload_n 0, 1) := by decide +kernel
theorem dX3_set_43 : decode cX3_set 43 = .ok (.iload_n 2, 1) := by decide +kernel
theorem dX3_set_44 : decode cX3_set 44 = .ok (.putfield 42, 3) := by decide +kernel
theorem dX3_set_47 : decode cX3_set 47 = .ok (.goto 13, 3) := by decide +kernel
theorem dX3_set_50 : decode cX3_set 50 = .ok (.aload_n 0, 1) := by decide +kernel
theorem dX3_set_51 : decode cX3_set 51 = .ok (.getfield 46, 3) := by decide +kernel
theorem dX3_set_54 : decode cX3_set 54 = .ok (.istore_n 3, 1) := by decide +kernel
theorem dX3_set_55 : decode cX3_set 55 = .ok (.aload_n 0, 1) := by decide +kernel
theorem dX3_set_56 : decode cX3_set 56 = .ok (.iload_n 2, 1) := by decide +kernel
theorem dX3_set_57 : decode cX3_set 57 = .ok (.putfield 46, 3) := by decide +kernel
theorem dX3_set_60 : decode cX3_set 60 = .ok (.iload_n 3, 1) := by decide +kernel
theorem dX3_set_61 : decode cX3_set 61 = .ok (.ireturn, 1) := by decide +kernel
set_option maxRecDepth 20000 in
theorem ggX3_rate_X1_hasNode : GoodIn wsX3_rate wsX1_hasNode := goodIn_r _ [9, 10, 32, 33, 34, 35, 36] (by decide +kernel) (by decide +kernel)
set_option maxRecDepth 20000 in
theorem gX3_rate_X1_hasNode : GoodIn wsX3_rate (wsV RX3 86 RX1 yX1_hasNode wsX1_hasNode) := goodIn_app (goodIn_of _ (by decide +kernel)) ggX3_rate_X1_hasNode
theorem dX3_rate_0 : decode cX3_rate 0 = .ok (.aload_n 0, 1) := by decide +kernel
theorem dX3_rate_1 : decode cX3_rate 1 = .ok (.getfield 19, 3) := by decide +kernel
theorem dX3_rate_4 : decode cX3_rate 4 = .ok (.iload_n 1, 1) := by decide +kernel
theorem dX3_rate_5 : decode cX3_rate 5 = .ok (.invokevirtual 86, 3) := by decide +kernel
theorem dX3_rate_8 : decode cX3_rate 8 = .ok (.ifCond .ne 6, 3) := by decide +kernel
theorem dX3_rate_11 : decode cX3_rate 11 = .ok (.ldc 90, 2) := by decide +kernel
theorem dX3_rate_13 : decode cX3_rate 13 = .ok (.ireturn, 1) := by decide +kernel
theorem dX3_rate_14 : decode cX3_rate 14 = .ok (.iload_n 2, 1) := by decide +kernel
theorem dX3_rate_15 : decode cX3_rate 15 = .ok (.bipush 90, 2) := by decide +kernel
theorem dX3_rate_17 : decode cX3_rate 17 = .ok (.if_icmp .lt 9, 3) := by decide +kernel
theorem dX3_rate_20 : decode cX3_rate 20 = .ok (.iload_n 2, 1) := by decide +kernel
theorem dX3_rate_21 : decode cX3_rate 21 = .ok (.bipush 110, 2) := by decide +kernel
theorem dX3_rate_23 : decode cX3_rate 23 = .ok (.if_icmp .le 6, 3) := by decide +kernel
theorem dX3_rate_26 : decode cX3_rate 26 = .ok (.ldc 55, 2) := by decide +kernel
theorem dX3_rate_28 : decode cX3_rate 28 = .ok (.ireturn, 1) := by decide +kernel
theorem dX3_rate_29 : decode cX3_rate 29 = .ok (.aload_n 0, 1) := by decide +kernel
theorem dX3_rate_30 : decode cX3_rate 30 = .ok (.getfield 28, 3) := by decide +kernel
theorem dX3_rate_33 : decode cX3_rate 33 = .ok (.getfield 91, 3) := by decide +kernel
theorem dX3_rate_36 : decode cX3_rate 36 = .ok (.iload_n 1, 1) := by decide +kernel
theorem dX3_rate_37 : decode cX3_rate 37 = .ok (.iaload, 1) := by decide +kernel
theorem dX3_rate_38 : decode cX3_rate 38 = .ok (.istore_n 3, 1) := by decide +kernel
theorem dX3_rate_39 : decode cX3_rate 39 = .ok (.aload_n 0, 1) := by decide +kernel
theorem dX3_rate_40 : decode cX3_rate 40 = .ok (.getfield 28, 3) := by decide +kernel
theorem dX3_rate_43 : decode cX3_rate 43 = .ok (.getfield 91, 3) := by decide +kernel
theorem dX3_rate_46 : decode cX3_rate 46 = .ok (.iload_n 1, 1) := by decide +kernel
theorem dX3_rate_47 : decode cX3_rate 47 = .ok (.iload_n 2, 1) := by decide +kernel
theorem dX3_rate_48 : decode cX3_rate 48 = .ok (.iastore, 1) := by decide +kernel
theorem dX3_rate_49 : decode cX3_rate 49 = .ok (.iload_n 3, 1) := by decide +kernel
theorem dX3_rate_50 : decode cX3_rate 50 = .ok (.ireturn, 1) := by decide +kernel
set_option maxRecDepth 20000 in
theorem ggX3_put_X1_hasNode : GoodIn wsX3_put wsX1_hasNode := goodIn_r _ [10, 11, 35, 36, 37, 38, 39] (by decide +kernel) (by decide +kernel)
set_option maxRecDepth 20000 in
theorem gX3_put_X1_hasNode : GoodIn wsX3_put (wsV RX3 86 RX1 yX1_hasNode wsX1_hasNode) := goodIn_app (goodIn_of _ (by decide +kernel)) ggX3_put_X1_hasNode
set_option maxRecDepth 20000 in
theorem ggX3_put_X0_clockOf : GoodIn wsX3_put wsX0_clockOf := goodIn_r _ [16, 17, 40, 41, 42, 43, 44, 45, 46, 47, 48, 49, 50] (by decide +kernel) (by decide +kernel)
set_option maxRecDepth 20000 in
theorem gX3_put_X0_clockOf : GoodIn wsX3_put (wsV RX3 96 RX0 yX0_clockOf wsX0_clockOf) := goodIn_app (goodIn_of _ (by decide +kernel)) ggX3_put_X0_clockOf
set_option maxRecDepth 20000 in
theorem ggX3_put_X0_tellClock : GoodIn wsX3_put wsX0_tellClock := goodIn_r _ [21, 17, 22, 23, 24, 40, 41, 42, 43, 44, 45, 46, 47, 48, 49, 50] (by decide +kernel) (by decide +kernel)
set_option maxRecDepth 20000 in
theorem gX3_put_X0_tellClock : GoodIn wsX3_put (wsV RX3 99 RX0 yX0_tellClock wsX0_tellClock) := goodIn_app (goodIn_of _ (by decide +kernel)) ggX3_put_X0_tellClock
theorem dX3_put_0 : decode cX3_put 0 = .ok (.aload_n 0, 1) := by decide +kernel
theorem dX3_put_1 : decode cX3_put 1 = .ok (.getfield 19, 3) := by decide +kernel
theorem dX3_put_4 : decode cX3_put 4 = .ok (.iload_n 1, 1) := by decide +kernel
theorem dX3_put_5 : decode cX3_put 5 = .ok (.invokevirtual 86, 3) := by decide +kernel
theorem dX3_put_8 : decode cX3_put 8 = .ok (.ifCond .ne 6, 3) := by decide +kernel
theorem dX3_put_11 : decode cX3_put 11 = .ok (.ldc 90, 2) := by decide +kernel
theorem dX3_put_13 : decode cX3_put 13 = .ok (.ireturn, 1) := by decide +kernel
theorem dX3_put_14 : decode cX3_put 14 = .ok (.iload_n 2, 1) := by decide +kernel
theorem dX3_put_15 : decode cX3_put 15 = .ok (.ifCond .lt 9, 3) := by decide +kernel
theorem dX3_put_18 : decode cX3_put 18 = .ok (.iload_n 2, 1) := by decide +kernel
theorem dX3_put_19 : decode cX3_put 19 = .ok (.ldc 95, 2) := by decide +kernel
theorem dX3_put_21 : decode cX3_put 21 = .ok (.if_icmp .le 6, 3) := by decide +kernel
theorem dX3_put_24 : decode cX3_put 24 = .ok (.ldc 55, 2) := by decide +kernel
theorem dX3_put_26 : decode cX3_put 26 = .ok (.ireturn, 1) := by decide +kernel
theorem dX3_put_27 : decode cX3_put 27 = .ok (.aload_n 0, 1) := by decide +kernel
theorem dX3_put_28 : decode cX3_put 28 = .ok (.getfield 28, 3) := by decide +kernel
theorem dX3_put_31 : decode cX3_put 31 = .ok (.iload_n 1, 1) := by decide +kernel
theorem dX3_put_32 : decode cX3_put 32 = .ok (.invokevirtual 96, 3) := by decide +kernel
theorem dX3_put_35 : decode cX3_put 35 = .ok (.istore_n 3, 1) := by decide +kernel
theorem dX3_put_36 : decode cX3_put 36 = .ok (.aload_n 0, 1) := by decide +kernel
theorem dX3_put_37 : decode cX3_put 37 = .ok (.getfield 28, 3) := by decide +kernel
theorem dX3_put_40 : decode cX3_put 40 = .ok (.iload_n 1, 1) := by decide +kernel
theorem dX3_put_41 : decode cX3_put 41 = .ok (.iload_n 2, 1) := by decide +kernel
theorem dX3_put_42 : decode cX3_put 42 = .ok (.invokevirtual 99, 3) := by decide +kernel
theorem dX3_put_45 : decode cX3_put 45 = .ok (.iload_n 3, 1) := by decide +kernel
theorem dX3_put_46 : decode cX3_put 46 = .ok (.ireturn, 1) := by decide +kernel
set_option maxRecDepth 20000 in
theorem ggX3_wrong_X1_hasLink : GoodIn wsX3_wrong wsX1_hasLink := goodIn_r _ [9, 10, 11, 12, 13, 8, 14, 15, 16, 17, 18, 41, 42, 43, 44, 45] (by decide +kernel) (by decide +kernel)
set_option maxRecDepth 20000 in
theorem gX3_wrong_X1_hasLink : GoodIn wsX3_wrong (wsV RX3 103 RX1 yX1_hasLink wsX1_hasLink) := goodIn_app (goodIn_of _ (by decide +kernel)) ggX3_wrong_X1_hasLink
set_option maxRecDepth 20000 in
theorem ggX3_wrong_X3_cell : GoodIn wsX3_wrong wsX3_cell := goodIn_r _ [18] (by decide +kernel) (by decide +kernel)
set_option maxRecDepth 20000 in
theorem gX3_wrong_X3_cell : GoodIn wsX3_wrong (va_wsS RX3 110 yX3_cell wsX3_cell) := goodIn_app (goodIn_of _ (by decide +kernel)) ggX3_wrong_X3_cell
theorem dX3_wrong_0 : decode cX3_wrong 0 = .ok (.aload_n 0, 1) := by decide +kernel
theorem dX3_wrong_1 : decode cX3_wrong 1 = .ok (.getfield 19, 3) := by decide +kernel
theorem dX3_wrong_4 : decode cX3_wrong 4 = .ok (.iload_n 1, 1) := by decide +kernel
theorem dX3_wrong_5 : decode cX3_wrong 5 = .ok (.iload_n 2, 1) := by decide +kernel
theorem dX3_wrong_6 : decode cX3_wrong 6 = .ok (.invokevirtual 103, 3) := by decide +kernel
theorem dX3_wrong_9 : decode cX3_wrong 9 = .ok (.ifCond .ne 6, 3) := by decide +kernel
theorem dX3_wrong_12 : decode cX3_wrong 12 = .ok (.ldc 90, 2) := by decide +kernel
theorem dX3_wrong_14 : decode cX3_wrong 14 = .ok (.ireturn, 1) := by decide +kernel
theorem dX3_wrong_15 : decode cX3_wrong 15 = .ok (.iload_n 3, 1) := by decide +kernel
theorem dX3_wrong_16 : decode cX3_wrong 16 = .ok (.bipush (-9), 2) := by decide +kernel
theorem dX3_wrong_18 : decode cX3_wrong 18 = .ok (.if_icmp .lt 9, 3) := by decide +kernel
theorem dX3_wrong_21 : decode cX3_wrong 21 = .ok (.iload_n 3, 1) := by decide +kernel
theorem dX3_wrong_22 : decode cX3_wrong 22 = .ok (.bipush 9, 2) := by decide +kernel
theorem dX3_wrong_24 : decode cX3_wrong 24 = .ok (.if_icmp .le 6, 3) := by decide +kernel
theorem dX3_wrong_27 : decode cX3_wrong 27 = .ok (.ldc 55, 2) := by decide +kernel
theorem dX3_wrong_29 : decode cX3_wrong 29 = .ok (.ireturn, 1) := by decide +kernel
theorem dX3_wrong_30 : decode cX3_wrong 30 = .ok (.aload_n 0, 1) := by decide +kernel
theorem dX3_wrong_31 : decode cX3_wrong 31 = .ok (.getfield 28, 3) := by decide +kernel
theorem dX3_wrong_34 : decode cX3_wrong 34 = .ok (.getfield 107, 3) := by decide +kernel
theorem dX3_wrong_37 : decode cX3_wrong 37 = .ok (.iload_n 1, 1) := by decide +kernel
theorem dX3_wrong_38 : decode cX3_wrong 38 = .ok (.iload_n 2, 1) := by decide +kernel
theorem dX3_wrong_39 : decode cX3_wrong 39 = .ok (.invokestatic 110, 3) := by decide +kernel
theorem dX3_wrong_42 : decode cX3_wrong 42 = .ok (.iaload, 1) := by decide +kernel
theorem dX3_wrong_43 : decode cX3_wrong 43 = .ok (.istore 4, 2) := by decide +kernel
theorem dX3_wrong_45 : decode cX3_wrong 45 = .ok (.aload_n 0, 1) := by decide +kernel
theorem dX3_wrong_46 : decode cX3_wrong 46 = .ok (.getfield 28, 3) := by decide +kernel
theorem dX3_wrong_49 : decode cX3_wrong 49 = .ok (.getfield 107, 3) := by decide +kernel
theorem dX3_wrong_52 : decode cX3_wrong 52 = .ok (.iload_n 1, 1) := by decide +kernel
theorem dX3_wrong_53 : decode cX3_wrong 53 = .ok (.iload_n 2, 1) := by decide +kernel
theorem dX3_wrong_54 : decode cX3_wrong 54 = .ok (.invokestatic 110, 3) := by decide +kernel
theorem dX3_wrong_57 : decode cX3_wrong 57 = .ok (.iload_n 3, 1) := by decide +kernel
theorem dX3_wrong_58 : decode cX3_wrong 58 = .ok (.iastore, 1) := by decide +kernel
theorem dX3_wrong_59 : decode cX3_wrong 59 = .ok (.iload 4, 2) := by decide +kernel
theorem dX3_wrong_61 : decode cX3_wrong 61 = .ok (.ireturn, 1) := by decide +kernel
set_option maxRecDepth 20000 in
theorem ggX3_delay_X1_hasLink : GoodIn wsX3_delay wsX1_hasLink := goodIn_r _ [9, 10, 11, 12, 13, 8, 14, 15, 16, 17, 18, 49, 50, 51, 52, 53] (by decide +kernel) (by decide +kernel)
set_option maxRecDepth 20000 in
theorem gX3_delay_X1_hasLink : GoodIn wsX3_delay (wsV RX3 103 RX1 yX1_hasLink wsX1_hasLink) := goodIn_app (goodIn_of _ (by decide +kernel)) ggX3_delay_X1_hasLink
set_option maxRecDepth 20000 in
theorem ggX3_delay_X3_cell : GoodIn wsX3_delay wsX3_cell := goodIn_r _ [18] (by decide +kernel) (by decide +kernel)
set_option maxRecDepth 20000 in
theorem gX3_delay_X3_cell : GoodIn wsX3_delay (va_wsS RX3 110 yX3_cell wsX3_cell) := goodIn_app (goodIn_of _ (by decide +kernel)) ggX3_delay_X3_cell
set_option maxRecDepth 20000 in
theorem ggX3_delay_X0_tellDelay : GoodIn wsX3_delay wsX0_tellDelay := goodIn_r _ [24, 25, 26, 27, 6, 7, 8, 9, 10, 11, 12, 13, 14, 15, 16, 17, 18, 38, 39, 40, 41, 42, 43, 44, 45, 46, 47, 48, 49, 50, 51, 52, 53] (by decide +kernel) (by decide +kernel)
set_option maxRecDepth 20000 in
theorem gX3_delay_X0_tellDelay : GoodIn wsX3_delay (wsV RX3 117 RX0 yX0_tellDelay wsX0_tellDelay) := goodIn_app (goodIn_of _ (by decide +kernel)) ggX3_delay_X0_tellDelay
theorem dX3_delay_0 : decode cX3_delay 0 = .ok (.aload_n 0, 1) := by decide +kernel
theorem dX3_delay_1 : decode cX3_delay 1 = .ok (.getfield 19, 3) := by decide +kernel
theorem dX3_delay_4 : decode cX3_delay 4 = .ok (.iload_n 1, 1) := by decide +kernel
theorem dX3_delay_5 : decode cX3_delay 5 = .ok (.iload_n 2, 1) := by decide +kernel
theorem dX3_delay_6 : decode cX3_delay 6 = .ok (.invokevirtual 103, 3) := by decide +kernel
theorem dX3_delay_9 : decode cX3_delay 9 = .ok (.ifCond .ne 6, 3) := by decide +kernel
theorem dX3_delay_12 : decode cX3_delay 12 = .ok (.ldc 90, 2) := by decide +kernel
theorem dX3_delay_14 : decode cX3_delay 14 = .ok (.ireturn, 1) := by decide +kernel
theorem dX3_delay_15 : decode cX3_delay 15 = .ok (.iload_n 3, 1) := by decide +kernel
theorem dX3_delay_16 : decode cX3_delay 16 = .ok (.ifCond .lt 8, 3) := by decide +kernel
theorem dX3_delay_19 : decode cX3_delay 19 = .ok (.iload_n 3, 1) := by decide +kernel
theorem dX3_delay_20 : decode cX3_delay 20 = .ok (.iconst 3, 1) := by decide +kernel
theorem dX3_delay_21 : decode cX3_delay 21 = .ok (.if_icmp .le 6, 3) := by decide +kernel
theorem dX3_delay_24 : decode cX3_delay 24 = .ok (.ldc 55, 2) := by decide +kernel
theorem dX3_delay_26 : decode cX3_delay 26 = .ok (.ireturn, 1) := by decide +kernel
theorem dX3_delay_27 : decode cX3_delay 27 = .ok (.aload_n 0, 1) := by decide +kernel
theorem dX3_delay_28 : decode cX3_delay 28 = .ok (.getfield 28, 3) := by decide +kernel
theorem dX3_delay_31 : decode cX3_delay 31 = .ok (.getfield 114, 3) := by decide +kernel
theorem dX3_delay_34 : decode cX3_delay 34 = .ok (.iload_n 1, 1) := by decide +kernel
theorem dX3_delay_35 : decode cX3_delay 35 = .ok (.iload_n 2, 1) := by decide +kernel
theorem dX3_delay_36 : decode cX3_delay 36 = .ok (.invokestatic 110, 3) := by decide +kernel
theorem dX3_delay_39 : decode cX3_delay 39 = .ok (.iaload, 1) := by decide +kernel
theorem dX3_delay_40 : decode cX3_delay 40 = .ok (.istore 4, 2) := by decide +kernel
theorem dX3_delay_42 : decode cX3_delay 42 = .ok (.aload_n 0, 1) := by decide +kernel
theorem dX3_delay_43 : decode cX3_delay 43 = .ok (.getfield 28, 3) := by decide +kernel
theorem dX3_delay_46 : decode cX3_delay 46 = .ok (.iload_n 1, 1) := by decide +kernel
theorem dX3_delay_47 : decode cX3_delay 47 = .ok (.iload_n 2, 1) := by decide +kernel
theorem dX3_delay_48 : decode cX3_delay 48 = .ok (.iload_n 3, 1) := by decide +kernel
theorem dX3_delay_49 : decode cX3_delay 49 = .ok (.invokevirtual 117, 3) := by decide +kernel
theorem dX3_delay_52 : decode cX3_delay 52 = .ok (.iload 4, 2) := by decide +kernel
theorem dX3_delay_54 : decode cX3_delay 54 = .ok (.ireturn, 1) := by decide +kernel
set_option maxRecDepth 20000 in
theorem ggX3_go_X1_isRead : GoodIn wsX3_go wsX1_isRead := goodIn_r _ [12, 13, 119, 120, 121, 122, 123] (by decide +kernel) (by decide +kernel)
set_option maxRecDepth 20000 in
theorem gX3_go_X1_isRead : GoodIn wsX3_go (wsV RX3 121 RX1 yX1_isRead wsX1_isRead) := goodIn_app (goodIn_of _ (by decide +kernel)) ggX3_go_X1_isRead
set_option maxRecDepth 20000 in
theorem ggX3_go_X0_tick : GoodIn wsX3_go wsX0_tick := goodIn_r _ [18, 19, 20, 21, 22, 23, 24, 25, 26, 27, 28, 29, 30, 17, 31, 32, 33, 34, 35, 36, 37, 38, 39, 40, 41, 42, 43, 44, 45, 46, 47, 48, 49, 50, 51, 11, 52, 53, 54, 55, 56, 57, 58, 59, 60, 61, 62, 63, 64, 65, 66, 67, 68, 69, 70, 71, 72, 73, 74, 75, 76, 77, 78, 79, 80, 81, 82, 83, 84, 85, 86, 87, 88, 89, 90, 91, 92, 93, 94, 95, 96, 108, 109, 110, 111, 112, 113, 114, 115, 116, 117, 118, 119, 120, 121, 122, 123] (by decide +kernel) (by decide +kernel)
set_option maxRecDepth 20000 in
theorem gX3_go_X0_tick : GoodIn wsX3_go (wsV RX3 127 RX0 yX0_tick wsX0_tick) := goodIn_app (goodIn_of _ (by decide +kernel)) ggX3_go_X0_tick
set_option maxRecDepth 20000 in
theorem ggX3_go_X0_localSkew : GoodIn wsX3_go wsX0_localSkew := goodIn_r _ [79, 80, 81, 82, 17, 83, 32, 19, 24, 25, 26, 27, 84, 85, 86, 11, 87, 88, 89, 54, 55, 56, 90, 91, 92, 93, 94, 95, 96, 45, 46, 47, 48, 33, 108, 109, 110, 111, 112, 113, 114, 115, 116, 117, 118, 119, 120, 121, 122, 123] (by decide +kernel) (by decide +kernel)
set_option maxRecDepth 20000 in
theorem gX3_go_X0_localSkew : GoodIn wsX3_go (wsV RX3 130 RX0 yX0_localSkew wsX0_localSkew) := goodIn_app (goodIn_of _ (by decide +kernel)) ggX3_go_X0_localSkew
theorem dX3_go_0 : decode cX3_go 0 = .ok (.iload_n 1, 1) := by decide +kernel
theorem dX3_go_1 : decode cX3_go 1 = .ok (.iconst 1, 1) := by decide +kernel
theorem dX3_go_2 : decode cX3_go 2 = .ok (.if_icmp .lt 9, 3) := by decide +kernel
theorem dX3_go_5 : decode cX3_go 5 = .ok (.iload_n 1, 1) := by decide +kernel
theorem dX3_go_6 : decode cX3_go 6 = .ok (.bipush 100, 2) := by decide +kernel
theorem dX3_go_8 : decode cX3_go 8 = .ok (.if_icmp .le 6, 3) := by decide +kernel
theorem dX3_go_11 : decode cX3_go 11 = .ok (.ldc 55, 2) := by decide +kernel
theorem dX3_go_13 : decode cX3_go 13 = .ok (.ireturn, 1) := by decide +kernel
theorem dX3_go_14 : decode cX3_go 14 = .ok (.aload_n 0, 1) := by decide +kernel
theorem dX3_go_15 : decode cX3_go 15 = .ok (.getfield 19, 3) := by decide +kernel
theorem dX3_go_18 : decode cX3_go 18 = .ok (.invokevirtual 121, 3) := by decide +kernel
theorem dX3_go_21 : decode cX3_go 21 = .ok (.ifCond .eq 18, 3) := by decide +kernel
theorem dX3_go_24 : decode cX3_go 24 = .ok (.aload_n 0, 1) := by decide +kernel
theorem dX3_go_25 : decode cX3_go 25 = .ok (.getfield 28, 3) := by decide +kernel
theorem dX3_go_28 : decode cX3_go 28 = .ok (.getfield 124, 3) := by decide +kernel
theorem dX3_go_31 : decode cX3_go 31 = .ok (.iload_n 1, 1) := by decide +kernel
theorem dX3_go_32 : decode cX3_go 32 = .ok (.iadd, 1) := by decide +kernel
theorem dX3_go_33 : decode cX3_go 33 = .ok (.sipush 9000, 3) := by decide +kernel
theorem dX3_go_36 : decode cX3_go 36 = .ok (.if_icmp .le 6, 3) := by decide +kernel
theorem dX3_go_39 : decode cX3_go 39 = .ok (.ldc 75, 2) := by decide +kernel
theorem dX3_go_41 : decode cX3_go 41 = .ok (.ireturn, 1) := by decide +kernel
theorem dX3_go_42 : decode cX3_go 42 = .ok (.iconst 0, 1) := by decide +kernel
theorem dX3_go_43 : decode cX3_go 43 = .ok (.istore_n 2, 1) := by decide +kernel
theorem dX3_go_44 : decode cX3_go 44 = .ok (.iload_n 2, 1) := by decide +kernel
theorem dX3_go_45 : decode cX3_go 45 = .ok (.iload_n 1, 1) := by decide +kernel
theorem dX3_go_46 : decode cX3_go 46 = .ok (.if_icmp .ge 24, 3) := by decide +kernel
theorem dX3_go_49 : decode cX3_go 49 = .ok (.aload_n 0, 1) := by decide +kernel
theorem dX3_go_50 : decode cX3_go 50 = .ok (.getfield 28, 3) := by decide +kernel
theorem dX3_go_53 : decode cX3_go 53 = .ok (.aload_n 0, 1) := by decide +kernel
theorem dX3_go_54 : decode cX3_go 54 = .ok (.getfield 42, 3) := by decide +kernel
theorem dX3_go_57 : decode cX3_go 57 = .ok (.aload_n 0, 1) := by decide +kernel
theorem dX3_go_58 : decode cX3_go 58 = .ok (.getfield 46, 3) := by decide +kernel
theorem dX3_go_61 : decode cX3_go 61 = .ok (.invokevirtual 127, 3) := by decide +kernel
theorem dX3_go_64 : decode cX3_go 64 = .ok (.iinc 2 1, 3) := by decide +kernel
theorem dX3_go_67 : decode cX3_go 67 = .ok (.goto (-23), 3) := by decide +kernel
theorem dX3_go_70 : decode cX3_go 70 = .ok (.aload_n 0, 1) := by decide +kernel
theorem dX3_go_71 : decode cX3_go 71 = .ok (.dup, 1) := by decide +kernel
theorem dX3_go_72 : decode cX3_go 72 = .ok (.getfield 52, 3) := by decide +kernel
theorem dX3_go_75 : decode cX3_go 75 = .ok (.iload_n 1, 1) := by decide +kernel
theorem dX3_go_76 : decode cX3_go 76 = .ok (.iadd, 1) := by decide +kernel
theorem dX3_go_77 : decode cX3_go 77 = .ok (.putfield 52, 3) := by decide +kernel
theorem dX3_go_80 : decode cX3_go 80 = .ok (.aload_n 0, 1) := by decide +kernel
theorem dX3_go_81 : decode cX3_go 81 = .ok (.getfield 28, 3) := by decide +kernel
theorem dX3_go_84 : decode cX3_go 84 = .ok (.invokevirtual 130, 3) := by decide +kernel
theorem dX3_go_87 : decode cX3_go 87 = .ok (.ireturn, 1) := by decide +kernel
set_option maxRecDepth 20000 in
theorem ggX3_node_X1_hasNode : GoodIn wsX3_node wsX1_hasNode := goodIn_r _ [10, 11, 95, 96, 97, 98, 99] (by decide +kernel) (by decide +kernel)
set_option maxRecDepth 20000 in
theorem gX3_node_X1_hasNode : GoodIn wsX3_node (wsV RX3 86 RX1 yX1_hasNode wsX1_hasNode) := goodIn_app (goodIn_of _ (by decide +kernel)) ggX3_node_X1_hasNode
set_option maxRecDepth 20000 in
theorem ggX3_node_X0_clockOf : GoodIn wsX3_node wsX0_clockOf := goodIn_r _ [16, 17, 84, 85, 86, 87, 88, 89, 90, 91, 92, 93, 94] (by decide +kernel) (by decide +kernel)
set_option maxRecDepth 20000 in
theorem gX3_node_X0_clockOf : GoodIn wsX3_node (wsV RX3 96 RX0 yX0_clockOf wsX0_clockOf) := goodIn_app (goodIn_of _ (by decide +kernel)) ggX3_node_X0_clockOf
set_option maxRecDepth 20000 in
theorem ggX3_node_X0_aheadOf : GoodIn wsX3_node wsX0_aheadOf := goodIn_r _ [21, 22, 23, 24, 25, 15, 26, 27, 28, 29, 30, 31, 32, 33, 34, 13, 14, 16, 17, 35, 36, 37, 9, 38, 39, 40, 41, 42, 43, 44, 45, 46, 47, 48, 84, 85, 86, 87, 88, 89, 90, 91, 92, 93, 94, 95, 96, 97, 98, 99] (by decide +kernel) (by decide +kernel)
set_option maxRecDepth 20000 in
theorem gX3_node_X0_aheadOf : GoodIn wsX3_node (wsV RX3 139 RX0 yX0_aheadOf wsX0_aheadOf) := goodIn_app (goodIn_of _ (by decide +kernel)) ggX3_node_X0_aheadOf
set_option maxRecDepth 20000 in
theorem ggX3_node_X0_behindOf : GoodIn wsX3_node wsX0_behindOf := goodIn_r _ [52, 33, 23, 24, 25, 15, 26, 27, 28, 29, 30, 31, 32, 22, 34, 13, 14, 16, 17, 35, 36, 37, 9, 38, 39, 40, 41, 42, 43, 44, 45, 46, 47, 48, 84, 85, 86, 87, 88, 89, 90, 91, 92, 93, 94, 95, 96, 97, 98, 99] (by decide +kernel) (by decide +kernel)
set_option maxRecDepth 20000 in
theorem gX3_node_X0_behindOf : GoodIn wsX3_node (wsV RX3 142 RX0 yX0_behindOf wsX0_behindOf) := goodIn_app (goodIn_of _ (by decide +kernel)) ggX3_node_X0_behindOf
set_option maxRecDepth 20000 in
theorem ggX3_node_X0_leastUp : GoodIn wsX3_node wsX0_leastUp := goodIn_r _ [56, 23, 24, 25, 15, 26, 27, 28, 29, 30, 31, 32, 22, 33, 34, 13, 14, 16, 17, 35, 36, 37, 9, 38, 39, 40, 41, 42, 43, 44, 45, 46, 47, 48, 57, 58, 59, 60, 61, 62, 63, 64, 65, 84, 85, 86, 87, 88, 89, 90, 91, 92, 93, 94, 95, 96, 97, 98, 99] (by decide +kernel) (by decide +kernel)
set_option maxRecDepth 20000 in
theorem gX3_node_X0_leastUp : GoodIn wsX3_node (wsV RX3 145 RX0 yX0_leastUp wsX0_leastUp) := goodIn_app (goodIn_of _ (by decide +kernel)) ggX3_node_X0_leastUp
set_option maxRecDepth 20000 in
theorem ggX3_node_X0_leastDown : GoodIn wsX3_node wsX0_leastDown := goodIn_r _ [69, 23, 24, 25, 15, 26, 27, 28, 29, 30, 31, 32, 22, 33, 34, 13, 14, 16, 17, 35, 36, 37, 9, 38, 39, 40, 41, 42, 43, 44, 45, 46, 47, 48, 70, 71, 72, 73, 64, 65, 84, 85, 86, 87, 88, 89, 90, 91, 92, 93, 94, 95, 96, 97, 98, 99] (by decide +kernel) (by decide +kernel)
set_option maxRecDepth 20000 in
theorem gX3_node_X0_leastDown : GoodIn wsX3_node (wsV RX3 148 RX0 yX0_leastDown wsX0_leastDown) := goodIn_app (goodIn_of _ (by decide +kernel)) ggX3_node_X0_leastDown
theorem dX3_node_0 : decode cX3_node 0 = .ok (.aload_n 0, 1) := by decide +kernel
theorem dX3_node_1 : decode cX3_node 1 = .ok (.getfield 19, 3) := by decide +kernel
theorem dX3_node_4 : decode cX3_node 4 = .ok (.iload_n 1, 1) := by decide +kernel
theorem dX3_node_5 : decode cX3_node 5 = .ok (.invokevirtual 86, 3) := by decide +kernel
theorem dX3_node_8 : decode cX3_node 8 = .ok (.ifCond .ne 6, 3) := by decide +kernel
theorem dX3_node_11 : decode cX3_node 11 = .ok (.ldc 90, 2) := by decide +kernel
theorem dX3_node_13 : decode cX3_node 13 = .ok (.ireturn, 1) := by decide +kernel
theorem dX3_node_14 : decode cX3_node 14 = .ok (.iload_n 2, 1) := by decide +kernel
theorem dX3_node_15 : decode cX3_node 15 = .ok (.tableswitch 142 0 8 #[49, 58, 68, 78, 88, 97, 106, 119, 132], 49) := by decide +kernel
theorem dX3_node_64 : decode cX3_node 64 = .ok (.aload_n 0, 1) := by decide +kernel
theorem dX3_node_65 : decode cX3_node 65 = .ok (.getfield 28, 3) := by decide +kernel
theorem dX3_node_68 : decode cX3_node 68 = .ok (.iload_n 1, 1) := by decide +kernel
theorem dX3_node_69 : decode cX3_node 69 = .ok (.invokevirtual 96, 3) := by decide +kernel
theorem dX3_node_72 : decode cX3_node 72 = .ok (.ireturn, 1) := by decide +kernel
theorem dX3_node_73 : decode cX3_node 73 = .ok (.aload_n 0, 1) := by decide +kernel
theorem dX3_node_74 : decode cX3_node 74 = .ok (.getfield 28, 3) := by decide +kernel
theorem dX3_node_77 : decode cX3_node 77 = .ok (.getfield 91, 3) := by decide +kernel
theorem dX3_node_80 : decode cX3_node 80 = .ok (.iload_n 1, 1) := by decide +kernel
theorem dX3_node_81 : decode cX3_node 81 = .ok (.iaload, 1) := by decide +kernel
theorem dX3_node_82 : decode cX3_node 82 = .ok (.ireturn, 1) := by decide +kernel
theorem dX3_node_83 : decode cX3_node 83 = .ok (.aload_n 0, 1) := by decide +kernel
theorem dX3_node_84 : decode cX3_node 84 = .ok (.getfield 28, 3) := by decide +kernel
theorem dX3_node_87 : decode cX3_node 87 = .ok (.getfield 133, 3) := by decide +kernel
theorem dX3_node_90 : decode cX3_node 90 = .ok (.iload_n 1, 1) := by decide +kernel
theorem dX3_node_91 : decode cX3_node 91 = .ok (.iaload, 1) := by decide +kernel
theorem dX3_node_92 : decode cX3_node 92 = .ok (.ireturn, 1) := by decide +kernel
theorem dX3_node_93 : decode cX3_node 93 = .ok (.aload_n 0, 1) := by decide +kernel
theorem dX3_node_94 : decode cX3_node 94 = .ok (.getfield 19, 3) := by decide +kernel
theorem dX3_node_97 : decode cX3_node 97 = .ok (.getfield 136, 3) := by decide +kernel
theorem dX3_node_100 : decode cX3_node 100 = .ok (.iload_n 1, 1) := by decide +kernel
theorem dX3_node_101 : decode cX3_node 101 = .ok (.iaload, 1) := by decide +kernel
theorem dX3_node_102 : decode cX3_node 102 = .ok (.ireturn, 1) := by decide +kernel
theorem dX3_node_103 : decode cX3_node 103 = .ok (.aload_n 0, 1) := by decide +kernel
theorem dX3_node_104 : decode cX3_node 104 = .ok (.getfield 28, 3) := by decide +kernel
theorem dX3_node_107 : decode cX3_node 107 = .ok (.iload_n 1, 1) := by decide +kernel
theorem dX3_node_108 : decode cX3_node 108 = .ok (.invokevirtual 139, 3) := by decide +kernel
theorem dX3_node_111 : decode cX3_node 111 = .ok (.ireturn, 1) := by decide +kernel
theorem dX3_node_112 : decode cX3_node 112 = .ok (.aload_n 0, 1) := by decide +kernel
theorem dX3_node_113 : decode cX3_node 113 = .ok (.getfield 28, 3) := by decide +kernel
theorem dX3_node_116 : decode cX3_node 116 = .ok (.iload_n 1, 1) := by decide +kernel
theorem dX3_node_117 : decode cX3_node 117 = .ok (.invokevirtual 142, 3) := by decide +kernel
theorem dX3_node_120 : decode cX3_node 120 = .ok (.ireturn, 1) := by decide +kernel
theorem dX3_node_121 : decode cX3_node 121 = .ok (.aload_n 0, 1) := by decide +kernel
theorem dX3_node_122 : decode cX3_node 122 = .ok (.getfield 28, 3) := by decide +kernel
theorem dX3_node_125 : decode cX3_node 125 = .ok (.iload_n 1, 1) := by decide +kernel
theorem dX3_node_126 : decode cX3_node 126 = .ok (.aload_n 0, 1) := by decide +kernel
theorem dX3_node_127 : decode cX3_node 127 = .ok (.getfield 42, 3) := by decide +kernel
theorem dX3_node_130 : decode cX3_node 130 = .ok (.invokevirtual 145, 3) := by decide +kernel
theorem dX3_node_133 : decode cX3_node 133 = .ok (.ireturn, 1) := by decide +kernel
theorem dX3_node_134 : decode cX3_node 134 = .ok (.aload_n 0, 1) := by decide +kernel
theorem dX3_node_135 : decode cX3_node 135 = .ok (.getfield 28, 3) := by decide +kernel
theorem dX3_node_138 : decode cX3_node 138 = .ok (.iload_n 1, 1) := by decide +kernel
theorem dX3_node_139 : decode cX3_node 139 = .ok (.aload_n 0, 1) := by decide +kernel
theorem dX3_node_140 : decode cX3_node 140 = .ok (.getfield 42, 3) := by decide +kernel
theorem dX3_node_143 : decode cX3_node 143 = .ok (.invokevirtual 148, 3) := by decide +kernel
theorem dX3_node_146 : decode cX3_node 146 = .ok (.ireturn, 1) := by decide +kernel
theorem dX3_node_147 : decode cX3_node 147 = .ok (.aload_n 0, 1) := by decide +kernel
theorem dX3_node_148 : decode cX3_node 148 = .ok (.getfield 28, 3) := by decide +kernel
theorem dX3_node_151 : decode cX3_node 151 = .ok (.getfield 151, 3) := by decide +kernel
theorem dX3_node_154 : decode cX3_node 154 = .ok (.iload_n 1, 1) := by decide +kernel
theorem dX3_node_155 : decode cX3_node 155 = .ok (.iaload, 1) := by decide +kernel
theorem dX3_node_156 : decode cX3_node 156 = .ok (.ireturn, 1) := by decide +kernel
theorem dX3_node_157 : decode cX3_node 157 = .ok (.ldc 55, 2) := by decide +kernel
theorem dX3_node_159 : decode cX3_node 159 = .ok (.ireturn, 1) := by decide +kernel
set_option maxRecDepth 20000 in
theorem ggX3_link_X1_hasLink : GoodIn wsX3_link wsX1_hasLink := goodIn_r _ [9, 10, 11, 12, 13, 8, 14, 15, 16, 17, 18, 61, 62, 63, 64, 65] (by decide +kernel) (by decide +kernel)
set_option maxRecDepth 20000 in
theorem gX3_link_X1_hasLink : GoodIn wsX3_link (wsV RX3 103 RX1 yX1_hasLink wsX1_hasLink) := goodIn_app (goodIn_of _ (by decide +kernel)) ggX3_link_X1_hasLink
set_option maxRecDepth 20000 in
theorem ggX3_link_X3_cell : GoodIn wsX3_link wsX3_cell := goodIn_r _ [18] (by decide +kernel) (by decide +kernel)
set_option maxRecDepth 20000 in
theorem gX3_link_X3_cell : GoodIn wsX3_link (va_wsS RX3 110 yX3_cell wsX3_cell) := goodIn_app (goodIn_of _ (by decide +kernel)) ggX3_link_X3_cell
set_option maxRecDepth 20000 in
theorem ggX3_link_X0_guess : GoodIn wsX3_link wsX0_guess := goodIn_r _ [24, 25, 26, 27, 16, 17, 18, 50, 51, 52, 53, 54, 55, 56, 57, 58, 59, 60] (by decide +kernel) (by decide +kernel)
set_option maxRecDepth 20000 in
theorem gX3_link_X0_guess : GoodIn wsX3_link (wsV RX3 154 RX0 yX0_guess wsX0_guess) := goodIn_app (goodIn_of _ (by decide +kernel)) ggX3_link_X0_guess
set_option maxRecDepth 20000 in
theorem ggX3_link_X0_skewOf : GoodIn wsX3_link wsX0_skewOf := goodIn_r _ [31, 32, 33, 34, 35, 36, 37, 38, 23, 39, 26, 50, 51, 52, 53, 54, 55, 56, 57, 58, 59, 60] (by decide +kernel) (by decide +kernel)
set_option maxRecDepth 20000 in
theorem gX3_link_X0_skewOf : GoodIn wsX3_link (wsV RX3 157 RX0 yX0_skewOf wsX0_skewOf) := goodIn_app (goodIn_of _ (by decide +kernel)) ggX3_link_X0_skewOf
theorem dX3_link_0 : decode cX3_link 0 = .ok (.aload_n 0, 1) := by decide +kernel
theorem dX3_link_1 : decode cX3_link 1 = .ok (.getfield 19, 3) := by decide +kernel
theorem dX3_link_4 : decode cX3_link 4 = .ok (.iload_n 1, 1) := by decide +kernel
theorem dX3_link_5 : decode cX3_link 5 = .ok (.iload_n 2, 1) := by decide +kernel
theorem dX3_link_6 : decode cX3_link 6 = .ok (.invokevirtual 103, 3) := by decide +kernel
theorem dX3_link_9 : decode cX3_link 9 = .ok (.ifCond .ne 6, 3) := by decide +kernel
theorem dX3_link_12 : decode cX3_link 12 = .ok (.ldc 90, 2) := by decide +kernel
theorem dX3_link_14 : decode cX3_link 14 = .ok (.ireturn, 1) := by decide +kernel
theorem dX3_link_15 : decode cX3_link 15 = .ok (.iload_n 3, 1) := by decide +kernel
theorem dX3_link_16 : decode cX3_link 16 = .ok (.tableswitch 80 0 3 #[32, 46, 60, 70], 32) := by decide +kernel
theorem dX3_link_48 : decode cX3_link 48 = .ok (.aload_n 0, 1) := by decide +kernel
theorem dX3_link_49 : decode cX3_link 49 = .ok (.getfield 28, 3) := by decide +kernel
theorem dX3_link_52 : decode cX3_link 52 = .ok (.getfield 114, 3) := by decide +kernel
theorem dX3_link_55 : decode cX3_link 55 = .ok (.iload_n 1, 1) := by decide +kernel
theorem dX3_link_56 : decode cX3_link 56 = .ok (.iload_n 2, 1) := by decide +kernel
theorem dX3_link_57 : decode cX3_link 57 = .ok (.invokestatic 110, 3) := by decide +kernel
theorem dX3_link_60 : decode cX3_link 60 = .ok (.iaload, 1) := by decide +kernel
theorem dX3_link_61 : decode cX3_link 61 = .ok (.ireturn, 1) := by decide +kernel
theorem dX3_link_62 : decode cX3_link 62 = .ok (.aload_n 0, 1) := by decide +kernel
theorem dX3_link_63 : decode cX3_link 63 = .ok (.getfield 28, 3) := by decide +kernel
theorem dX3_link_66 : decode cX3_link 66 = .ok (.getfield 107, 3) := by decide +kernel
theorem dX3_link_69 : decode cX3_link 69 = .ok (.iload_n 1, 1) := by decide +kernel
theorem dX3_link_70 : decode cX3_link 70 = .ok (.iload_n 2, 1) := by decide +kernel
theorem dX3_link_71 : decode cX3_link 71 = .ok (.invokestatic 110, 3) := by decide +kernel
theorem dX3_link_74 : decode cX3_link 74 = .ok (.iaload, 1) := by decide +kernel
theorem dX3_link_75 : decode cX3_link 75 = .ok (.ireturn, 1) := by decide +kernel
theorem dX3_link_76 : decode cX3_link 76 = .ok (.aload_n 0, 1) := by decide +kernel
theorem dX3_link_77 : decode cX3_link 77 = .ok (.getfield 28, 3) := by decide +kernel
theorem dX3_link_80 : decode cX3_link 80 = .ok (.iload_n 1, 1) := by decide +kernel
theorem dX3_link_81 : decode cX3_link 81 = .ok (.iload_n 2, 1) := by decide +kernel
theorem dX3_link_82 : decode cX3_link 82 = .ok (.invokevirtual 154, 3) := by decide +kernel
theorem dX3_link_85 : decode cX3_link 85 = .ok (.ireturn, 1) := by decide +kernel
theorem dX3_link_86 : decode cX3_link 86 = .ok (.aload_n 0, 1) := by decide +kernel
theorem dX3_link_87 : decode cX3_link 87 = .ok (.getfield 28, 3) := by decide +kernel
theorem dX3_link_90 : decode cX3_link 90 = .ok (.iload_n 1, 1) := by decide +kernel
theorem dX3_link_91 : decode cX3_link 91 = .ok (.iload_n 2, 1) := by decide +kernel
theorem dX3_link_92 : decode cX3_link 92 = .ok (.invokevirtual 157, 3) := by decide +kernel
theorem dX3_link_95 : decode cX3_link 95 = .ok (.ireturn, 1) := by decide +kernel
theorem dX3_link_96 : decode cX3_link 96 = .ok (.ldc 55, 2) := by decide +kernel
theorem dX3_link_98 : decode cX3_link 98 = .ok (.ireturn, 1) := by decide +kernel
set_option maxRecDepth 20000 in
theorem ggX3_hops_X1_hasNode : GoodIn wsX3_hops wsX1_hasNode := goodIn_r _ [7, 8, 28, 29, 30, 31, 32] (by decide +kernel) (by decide +kernel)
set_option maxRecDepth 20000 in
theorem gX3_hops_X1_hasNode : GoodIn wsX3_hops (wsV RX3 86 RX1 yX1_hasNode wsX1_hasNode) := goodIn_app (goodIn_of _ (by decide +kernel)) ggX3_hops_X1_hasNode
set_option maxRecDepth 20000 in
theorem ggX3_hops_X1_hopsOf : GoodIn wsX3_hops wsX1_hopsOf := goodIn_r _ [12, 13, 14, 15, 16, 17, 28, 29, 30, 31, 32] (by decide +kernel) (by decide +kernel)
set_option maxRecDepth 20000 in
theorem gX3_hops_X1_hopsOf : GoodIn wsX3_hops (wsV RX3 160 RX1 yX1_hopsOf wsX1_hopsOf) := goodIn_app (goodIn_of _ (by decide +kernel)) ggX3_hops_X1_hopsOf
theorem dX3_hops_0 : decode cX3_hops 0 = .ok (.aload_n 0, 1) := by decide +kernel
theorem dX3_hops_1 : decode cX3_hops 1 = .ok (.getfield 19, 3) := by decide +kernel
theorem dX3_hops_4 : decode cX3_hops 4 = .ok (.iload_n 1, 1) := by decide +kernel
theorem dX3_hops_5 : decode cX3_hops 5 = .ok (.invokevirtual 86, 3) := by decide +kernel
theorem dX3_hops_8 : decode cX3_hops 8 = .ok (.ifCond .eq 14, 3) := by decide +kernel
theorem dX3_hops_11 : decode cX3_hops 11 = .ok (.aload_n 0, 1) := by decide +kernel
theorem dX3_hops_12 : decode cX3_hops 12 = .ok (.getfield 19, 3) := by decide +kernel
theorem dX3_hops_15 : decode cX3_hops 15 = .ok (.iload_n 2, 1) := by decide +kernel
theorem dX3_hops_16 : decode cX3_hops 16 = .ok (.invokevirtual 86, 3) := by decide +kernel
theorem dX3_hops_19 : decode cX3_hops 19 = .ok (.ifCond .ne 6, 3) := by decide +kernel
theorem dX3_hops_22 : decode cX3_hops 22 = .ok (.ldc 90, 2) := by decide +kernel
theorem dX3_hops_24 : decode cX3_hops 24 = .ok (.ireturn, 1) := by decide +kernel
theorem dX3_hops_25 : decode cX3_hops 25 = .ok (.aload_n 0, 1) := by decide +kernel
theorem dX3_hops_26 : decode cX3_hops 26 = .ok (.getfield 19, 3) := by decide +kernel
theorem dX3_hops_29 : decode cX3_hops 29 = .ok (.iload_n 1, 1) := by decide +kernel
theorem dX3_hops_30 : decode cX3_hops 30 = .ok (.iload_n 2, 1) := by decide +kernel
theorem dX3_hops_31 : decode cX3_hops 31 = .ok (.invokevirtual 160, 3) := by decide +kernel
theorem dX3_hops_34 : decode cX3_hops 34 = .ok (.ireturn, 1) := by decide +kernel
set_option maxRecDepth 20000 in
theorem ggX3_skew_X1_isRead : GoodIn wsX3_skew wsX1_isRead := goodIn_r _ [10, 11, 79, 80, 81, 82, 83] (by decide +kernel) (by decide +kernel)
set_option maxRecDepth 20000 in
theorem gX3_skew_X1_isRead : GoodIn wsX3_skew (wsV RX3 121 RX1 yX1_isRead wsX1_isRead) := goodIn_app (goodIn_of _ (by decide +kernel)) ggX3_skew_X1_isRead
set_option maxRecDepth 20000 in
theorem ggX3_skew_X0_localSkew : GoodIn wsX3_skew wsX0_localSkew := goodIn_r _ [16, 17, 18, 19, 15, 20, 21, 22, 23, 24, 25, 26, 27, 28, 29, 9, 30, 31, 32, 33, 34, 35, 36, 37, 38, 39, 40, 41, 42, 43, 44, 45, 46, 47, 68, 69, 70, 71, 72, 73, 74, 75, 76, 77, 78, 79, 80, 81, 82, 83] (by decide +kernel) (by decide +kernel)
set_option maxRecDepth 20000 in
theorem gX3_skew_X0_localSkew : GoodIn wsX3_skew (wsV RX3 130 RX0 yX0_localSkew wsX0_localSkew) := goodIn_app (goodIn_of _ (by decide +kernel)) ggX3_skew_X0_localSkew
set_option maxRecDepth 20000 in
theorem ggX3_skew_X0_globalSkew : GoodIn wsX3_skew wsX0_globalSkew := goodIn_r _ [51, 22, 23, 24, 25, 26, 36, 37, 38, 15, 39, 40, 41, 42, 43, 44, 45, 46, 47, 68, 69, 70, 71, 72, 73, 74, 75, 76, 77, 78, 79, 80, 81, 82, 83] (by decide +kernel) (by decide +kernel)
set_option maxRecDepth 20000 in
theorem gX3_skew_X0_globalSkew : GoodIn wsX3_skew (wsV RX3 163 RX0 yX0_globalSkew wsX0_globalSkew) := goodIn_app (goodIn_of _ (by decide +kernel)) ggX3_skew_X0_globalSkew
set_option maxRecDepth 20000 in
theorem ggX3_skew_X3_levelReaching : GoodIn wsX3_skew wsX3_levelReaching := goodIn_r _ [54, 55, 56, 34, 57] (by decide +kernel) (by decide +kernel)
set_option maxRecDepth 20000 in
theorem gX3_skew_X3_levelReaching : GoodIn wsX3_skew (va_wsS RX3 166 yX3_levelReaching wsX3_levelReaching) := goodIn_app (goodIn_of _ (by decide +kernel)) ggX3_skew_X3_levelReaching
theorem dX3_skew_0 : decode cX3_skew 0 = .ok (.iload_n 1, 1) := by decide +kernel
theorem dX3_skew_1 : decode cX3_skew 1 = .ok (.ifCond .lt 8, 3) := by decide +kernel
theorem dX3_skew_4 : decode cX3_skew 4 = .ok (.iload_n 1, 1) := by decide +kernel
theorem dX3_skew_5 : decode cX3_skew 5 = .ok (.iconst 3, 1) := by decide +kernel
theorem dX3_skew_6 : decode cX3_skew 6 = .ok (.if_icmp .le 6, 3) := by decide +kernel
theorem dX3_skew_9 : decode cX3_skew 9 = .ok (.ldc 55, 2) := by decide +kernel
theorem dX3_skew_11 : decode cX3_skew 11 = .ok (.ireturn, 1) := by decide +kernel
theorem dX3_skew_12 : decode cX3_skew 12 = .ok (.aload_n 0, 1) := by decide +kernel
theorem dX3_skew_13 : decode cX3_skew 13 = .ok (.getfield 19, 3) := by decide +kernel
theorem dX3_skew_16 : decode cX3_skew 16 = .ok (.invokevirtual 121, 3) := by decide +kernel
theorem dX3_skew_19 : decode cX3_skew 19 = .ok (.ifCond .ne 6, 3) := by decide +kernel
theorem dX3_skew_22 : decode cX3_skew 22 = .ok (.ldc 75, 2) := by decide +kernel
theorem dX3_skew_24 : decode cX3_skew 24 = .ok (.ireturn, 1) := by decide +kernel
theorem dX3_skew_25 : decode cX3_skew 25 = .ok (.iload_n 1, 1) := by decide +kernel
theorem dX3_skew_26 : decode cX3_skew 26 = .ok (.tableswitch 57 0 2 #[26, 34, 42], 26) := by decide +kernel
theorem dX3_skew_52 : decode cX3_skew 52 = .ok (.aload_n 0, 1) := by decide +kernel
theorem dX3_skew_53 : decode cX3_skew 53 = .ok (.getfield 28, 3) := by decide +kernel
theorem dX3_skew_56 : decode cX3_skew 56 = .ok (.invokevirtual 130, 3) := by decide +kernel
theorem dX3_skew_59 : decode cX3_skew 59 = .ok (.ireturn, 1) := by decide +kernel
theorem dX3_skew_60 : decode cX3_skew 60 = .ok (.aload_n 0, 1) := by decide +kernel
theorem dX3_skew_61 : decode cX3_skew 61 = .ok (.getfield 28, 3) := by decide +kernel
theorem dX3_skew_64 : decode cX3_skew 64 = .ok (.invokevirtual 163, 3) := by decide +kernel
theorem dX3_skew_67 : decode cX3_skew 67 = .ok (.ireturn, 1) := by decide +kernel
theorem dX3_skew_68 : decode cX3_skew 68 = .ok (.aload_n 0, 1) := by decide +kernel
theorem dX3_skew_69 : decode cX3_skew 69 = .ok (.getfield 28, 3) := by decide +kernel
theorem dX3_skew_72 : decode cX3_skew 72 = .ok (.invokevirtual 130, 3) := by decide +kernel
theorem dX3_skew_75 : decode cX3_skew 75 = .ok (.aload_n 0, 1) := by decide +kernel
theorem dX3_skew_76 : decode cX3_skew 76 = .ok (.getfield 42, 3) := by decide +kernel
theorem dX3_skew_79 : decode cX3_skew 79 = .ok (.invokestatic 166, 3) := by decide +kernel
theorem dX3_skew_82 : decode cX3_skew 82 = .ok (.ireturn, 1) := by decide +kernel
theorem dX3_skew_83 : decode cX3_skew 83 = .ok (.aload_n 0, 1) := by decide +kernel
theorem dX3_skew_84 : decode cX3_skew 84 = .ok (.getfield 28, 3) := by decide +kernel
theorem dX3_skew_87 : decode cX3_skew 87 = .ok (.getfield 169, 3) := by decide +kernel
theorem dX3_skew_90 : decode cX3_skew 90 = .ok (.ireturn, 1) := by decide +kernel
set_option maxRecDepth 20000 in
theorem ggX3_spread_X1_isRead : GoodIn wsX3_spread wsX1_isRead := goodIn_r _ [9, 10, 53, 54, 55, 56, 57] (by decide +kernel) (by decide +kernel)
set_option maxRecDepth 20000 in
theorem gX3_spread_X1_isRead : GoodIn wsX3_spread (wsV RX3 121 RX1 yX1_isRead wsX1_isRead) := goodIn_app (goodIn_of _ (by decide +kernel)) ggX3_spread_X1_isRead
set_option maxRecDepth 20000 in
theorem ggX3_spread_X0_skewByHops : GoodIn wsX3_spread wsX0_skewByHops := goodIn_r _ [15, 16, 17, 18, 19, 20, 21, 22, 23, 24, 8, 25, 26, 27, 28, 29, 30, 31, 32, 33, 14, 34, 35, 36, 37, 38, 39, 40, 41, 42, 58, 59, 60, 61, 62, 63, 64, 65, 66, 67, 68, 53, 54, 55, 56, 57] (by decide +kernel) (by decide +kernel)
set_option maxRecDepth 20000 in
theorem gX3_spread_X0_skewByHops : GoodIn wsX3_spread (wsV RX3 172 RX0 yX0_skewByHops wsX0_skewByHops) := goodIn_app (goodIn_of _ (by decide +kernel)) ggX3_spread_X0_skewByHops
theorem dX3_spread_0 : decode cX3_spread 0 = .ok (.iload_n 1, 1) := by decide +kernel
theorem dX3_spread_1 : decode cX3_spread 1 = .ok (.iconst 1, 1) := by decide +kernel
theorem dX3_spread_2 : decode cX3_spread 2 = .ok (.if_icmp .lt 9, 3) := by decide +kernel
theorem dX3_spread_5 : decode cX3_spread 5 = .ok (.iload_n 1, 1) := by decide +kernel
theorem dX3_spread_6 : decode cX3_spread 6 = .ok (.bipush 6, 2) := by decide +kernel
theorem dX3_spread_8 : decode cX3_spread 8 = .ok (.if_icmp .lt 6, 3) := by decide +kernel
theorem dX3_spread_11 : decode cX3_spread 11 = .ok (.ldc 55, 2) := by decide +kernel
theorem dX3_spread_13 : decode cX3_spread 13 = .ok (.ireturn, 1) := by decide +kernel
theorem dX3_spread_14 : decode cX3_spread 14 = .ok (.aload_n 0, 1) := by decide +kernel
theorem dX3_spread_15 : decode cX3_spread 15 = .ok (.getfield 19, 3) := by decide +kernel
theorem dX3_spread_18 : decode cX3_spread 18 = .ok (.invokevirtual 121, 3) := by decide +kernel
theorem dX3_spread_21 : decode cX3_spread 21 = .ok (.ifCond .ne 6, 3) := by decide +kernel
theorem dX3_spread_24 : decode cX3_spread 24 = .ok (.ldc 75, 2) := by decide +kernel
theorem dX3_spread_26 : decode cX3_spread 26 = .ok (.ireturn, 1) := by decide +kernel
theorem dX3_spread_27 : decode cX3_spread 27 = .ok (.aload_n 0, 1) := by decide +kernel
theorem dX3_spread_28 : decode cX3_spread 28 = .ok (.getfield 28, 3) := by decide +kernel
theorem dX3_spread_31 : decode cX3_spread 31 = .ok (.iload_n 1, 1) := by decide +kernel
theorem dX3_spread_32 : decode cX3_spread 32 = .ok (.invokevirtual 172, 3) := by decide +kernel
theorem dX3_spread_35 : decode cX3_spread 35 = .ok (.ireturn, 1) := by decide +kernel
set_option maxRecDepth 20000 in
theorem ggX3_worst_X1_isRead : GoodIn wsX3_worst wsX1_isRead := goodIn_r _ [8, 9, 127, 128, 129, 130, 131] (by decide +kernel) (by decide +kernel)
set_option maxRecDepth 20000 in
theorem gX3_worst_X1_isRead : GoodIn wsX3_worst (wsV RX3 121 RX1 yX1_isRead wsX1_isRead) := goodIn_app (goodIn_of _ (by decide +kernel)) ggX3_worst_X1_isRead
set_option maxRecDepth 20000 in
theorem ggX3_worst_X3_searchWorst : GoodIn wsX3_worst wsX3_searchWorst := goodIn_r _ [14, 15, 16, 2, 17, 18, 19, 20, 21, 22, 23, 24, 25, 26, 27, 28, 29, 30, 31, 32, 33, 34, 35, 36, 37, 38, 39, 40, 41, 42, 43, 44, 45, 46, 47, 48, 49, 50, 51, 52, 53, 54, 55, 56, 57, 58, 59, 60, 61, 62, 63, 64, 65, 66, 67, 7, 68, 69, 70, 13, 71, 72, 73, 74, 75, 76, 77, 78, 79, 80, 81, 82, 83, 84, 85, 86, 87, 88, 89, 90, 91, 92, 93, 94, 95, 96, 97, 98, 99, 100, 101, 102, 103, 104, 105, 106, 107, 108, 109, 117, 118, 119, 120, 121, 122, 123, 124, 125, 126, 127, 128, 129, 130, 131, 132, 133, 134, 135, 136, 137, 138, 139, 140, 141, 142] (by decide +kernel) (by decide +kernel)
set_option maxRecDepth 20000 in
theorem gX3_worst_X3_searchWorst : GoodIn wsX3_worst (wsV RX3 175 RX3 yX3_searchWorst wsX3_searchWorst) := goodIn_app (goodIn_of _ (by decide +kernel)) ggX3_worst_X3_searchWorst
set_option maxRecDepth 20000 in
theorem ggX3_worst_X3_skewOfWorst : GoodIn wsX3_worst wsX3_skewOfWorst := goodIn_r _ [112] (by decide +kernel) (by decide +kernel)
set_option maxRecDepth 20000 in
theorem gX3_worst_X3_skewOfWorst : GoodIn wsX3_worst (va_wsS RX3 179 yX3_skewOfWorst wsX3_skewOfWorst) := goodIn_app (goodIn_of _ (by decide +kernel)) ggX3_worst_X3_skewOfWorst
set_option maxRecDepth 20000 in
theorem ggX3_worst_X3_nodesOfWorst : GoodIn wsX3_worst wsX3_nodesOfWorst := goodIn_r _ [115, 116] (by decide +kernel) (by decide +kernel)
set_option maxRecDepth 20000 in
theorem gX3_worst_X3_nodesOfWorst : GoodIn wsX3_worst (va_wsS RX3 183 yX3_nodesOfWorst wsX3_nodesOfWorst) := goodIn_app (goodIn_of _ (by decide +kernel)) ggX3_worst_X3_nodesOfWorst
theorem dX3_worst_0 : decode cX3_worst 0 = .ok (.iload_n 1, 1) := by decide +kernel
theorem dX3_worst_1 : decode cX3_worst 1 = .ok (.iconst 1, 1) := by decide +kernel
theorem dX3_worst_2 : decode cX3_worst 2 = .ok (.if_icmp .lt 18, 3) := by decide +kernel
theorem dX3_worst_5 : decode cX3_worst 5 = .ok (.iload_n 1, 1) := by decide +kernel
theorem dX3_worst_6 : decode cX3_worst 6 = .ok (.bipush 12, 2) := by decide +kernel
theorem dX3_worst_8 : decode cX3_worst 8 = .ok (.if_icmp .gt 12, 3) := by decide +kernel
theorem dX3_worst_11 : decode cX3_worst 11 = .ok (.iload_n 2, 1) := by decide +kernel
theorem dX3_worst_12 : decode cX3_worst 12 = .ok (.ifCond .lt 8, 3) := by decide +kernel
theorem dX3_worst_15 : decode cX3_worst 15 = .ok (.iload_n 2, 1) := by decide +kernel
theorem dX3_worst_16 : decode cX3_worst 16 = .ok (.iconst 1, 1) := by decide +kernel
theorem dX3_worst_17 : decode cX3_worst 17 = .ok (.if_icmp .le 6, 3) := by decide +kernel
theorem dX3_worst_20 : decode cX3_worst 20 = .ok (.ldc 55, 2) := by decide +kernel
theorem dX3_worst_22 : decode cX3_worst 22 = .ok (.ireturn, 1) := by decide +kernel
theorem dX3_worst_23 : decode cX3_worst 23 = .ok (.aload_n 0, 1) := by decide +kernel
theorem dX3_worst_24 : decode cX3_worst 24 = .ok (.getfield 19, 3) := by decide +kernel
theorem dX3_worst_27 : decode cX3_worst 27 = .ok (.invokevirtual 121, 3) := by decide +kernel
theorem dX3_worst_30 : decode cX3_worst 30 = .ok (.ifCond .ne 6, 3) := by decide +kernel
theorem dX3_worst_33 : decode cX3_worst 33 = .ok (.ldc 75, 2) := by decide +kernel
theorem dX3_worst_35 : decode cX3_worst 35 = .ok (.ireturn, 1) := by decide +kernel
theorem dX3_worst_36 : decode cX3_worst 36 = .ok (.aload_n 0, 1) := by decide +kernel
theorem dX3_worst_37 : decode cX3_worst 37 = .ok (.iload_n 1, 1) := by decide +kernel
theorem dX3_worst_38 : decode cX3_worst 38 = .ok (.invokevirtual 175, 3) := by decide +kernel
theorem dX3_worst_41 : decode cX3_worst 41 = .ok (.lstore_n 3, 1) := by decide +kernel
theorem dX3_worst_42 : decode cX3_worst 42 = .ok (.iload_n 2, 1) := by decide +kernel
theorem dX3_worst_43 : decode cX3_worst 43 = .ok (.ifCond .ne 10, 3) := by decide +kernel
theorem dX3_worst_46 : decode cX3_worst 46 = .ok (.lload_n 3, 1) := by decide +kernel
theorem dX3_worst_47 : decode cX3_worst 47 = .ok (.invokestatic 179, 3) := by decide +kernel
theorem dX3_worst_50 : decode cX3_worst 50 = .ok (.goto 7, 3) := by decide +kernel
theorem dX3_worst_53 : decode cX3_worst 53 = .ok (.lload_n 3, 1) := by decide +kernel
theorem dX3_worst_54 : decode cX3_worst 54 = .ok (.invokestatic 183, 3) := by decide +kernel
theorem dX3_worst_57 : decode cX3_worst 57 = .ok (.ireturn, 1) := by decide +kernel
set_option maxRecDepth 20000 in
theorem ggX3_image_X1_isRead : GoodIn wsX3_image wsX1_isRead := goodIn_r _ [10, 11, 54, 55, 56, 57, 58] (by decide +kernel) (by decide +kernel)
set_option maxRecDepth 20000 in
theorem gX3_image_X1_isRead : GoodIn wsX3_image (wsV RX3 121 RX1 yX1_isRead wsX1_isRead) := goodIn_app (goodIn_of _ (by decide +kernel)) ggX3_image_X1_isRead
set_option maxRecDepth 20000 in
theorem ggX3_image_X0_copyAll : GoodIn wsX3_image wsX0_copyAll := goodIn_r _ [16, 17, 18, 19, 20, 21, 22, 23, 24, 25, 26, 27, 28, 29, 15, 30, 31, 32, 43, 44, 45, 46, 47, 48, 49, 50, 51, 52, 53] (by decide +kernel) (by decide +kernel)
set_option maxRecDepth 20000 in
theorem gX3_image_X0_copyAll : GoodIn wsX3_image (wsV RX3 186 RX0 yX0_copyAll wsX0_copyAll) := goodIn_app (goodIn_of _ (by decide +kernel)) ggX3_image_X0_copyAll
theorem dX3_image_0 : decode cX3_image 0 = .ok (.aload_n 0, 1) := by decide +kernel
theorem dX3_image_1 : decode cX3_image 1 = .ok (.getfield 19, 3) := by decide +kernel
theorem dX3_image_4 : decode cX3_image 4 = .ok (.invokevirtual 121, 3) := by decide +kernel
theorem dX3_image_7 : decode cX3_image 7 = .ok (.ifCond .ne 6, 3) := by decide +kernel
theorem dX3_image_10 : decode cX3_image 10 = .ok (.ldc 75, 2) := by decide +kernel
theorem dX3_image_12 : decode cX3_image 12 = .ok (.ireturn, 1) := by decide +kernel
theorem dX3_image_13 : decode cX3_image 13 = .ok (.aload_n 0, 1) := by decide +kernel
theorem dX3_image_14 : decode cX3_image 14 = .ok (.getfield 32, 3) := by decide +kernel
theorem dX3_image_17 : decode cX3_image 17 = .ok (.aload_n 0, 1) := by decide +kernel
theorem dX3_image_18 : decode cX3_image 18 = .ok (.getfield 28, 3) := by decide +kernel
theorem dX3_image_21 : decode cX3_image 21 = .ok (.invokevirtual 186, 3) := by decide +kernel
theorem dX3_image_24 : decode cX3_image 24 = .ok (.aload_n 0, 1) := by decide +kernel
theorem dX3_image_25 : decode cX3_image 25 = .ok (.iconst 1, 1) := by decide +kernel
theorem dX3_image_26 : decode cX3_image 26 = .ok (.putfield 38, 3) := by decide +kernel
theorem dX3_image_29 : decode cX3_image 29 = .ok (.aload_n 0, 1) := by decide +kernel
theorem dX3_image_30 : decode cX3_image 30 = .ok (.getfield 32, 3) := by decide +kernel
theorem dX3_image_33 : decode cX3_image 33 = .ok (.getfield 124, 3) := by decide +kernel
theorem dX3_image_36 : decode cX3_image 36 = .ok (.ireturn, 1) := by decide +kernel
set_option maxRecDepth 20000 in
theorem ggX3_restore_X0_copyAll : GoodIn wsX3_restore wsX0_copyAll := goodIn_r _ [9, 10, 11, 12, 13, 14, 15, 16, 17, 18, 19, 20, 21, 22, 8, 23, 24, 25, 36, 37, 38, 39, 40, 41, 42, 43, 44, 45, 46] (by decide +kernel) (by decide +kernel)
set_option maxRecDepth 20000 in
theorem gX3_restore_X0_copyAll : GoodIn wsX3_restore (wsV RX3 186 RX0 yX0_copyAll wsX0_copyAll) := goodIn_app (goodIn_of _ (by decide +kernel)) ggX3_restore_X0_copyAll
theorem dX3_restore_0 : decode cX3_restore 0 = .ok (.aload_n 0, 1) := by decide +kernel
theorem dX3_restore_1 : decode cX3_restore 1 = .ok (.getfield 38, 3) := by decide +kernel
theorem dX3_restore_4 : decode cX3_restore 4 = .ok (.ifCond .ne 6, 3) := by decide +kernel
theorem dX3_restore_7 : decode cX3_restore 7 = .ok (.ldc 75, 2) := by decide +kernel
theorem dX3_restore_9 : decode cX3_restore 9 = .ok (.ireturn, 1) := by decide +kernel
theorem dX3_restore_10 : decode cX3_restore 10 = .ok (.aload_n 0, 1) := by decide +kernel
theorem dX3_restore_11 : decode cX3_restore 11 = .ok (.getfield 28, 3) := by decide +kernel
theorem dX3_restore_14 : decode cX3_restore 14 = .ok (.aload_n 0, 1) := by decide +kernel
theorem dX3_restore_15 : decode cX3_restore 15 = .ok (.getfield 32, 3) := by decide +kernel
theorem dX3_restore_18 : decode cX3_restore 18 = .ok (.invokevirtual 186, 3) := by decide +kernel
theorem dX3_restore_21 : decode cX3_restore 21 = .ok (.aload_n 0, 1) := by decide +kernel
theorem dX3_restore_22 : decode cX3_restore 22 = .ok (.getfield 28, 3) := by decide +kernel
theorem dX3_restore_25 : decode cX3_restore 25 = .ok (.getfield 124, 3) := by decide +kernel
theorem dX3_restore_28 : decode cX3_restore 28 = .ok (.ireturn, 1) := by decide +kernel
set_option maxRecDepth 20000 in
theorem ggX3_count_X0_howManyFast : GoodIn wsX3_count wsX0_howManyFast := goodIn_r _ [13, 14, 15, 33, 34, 35, 36, 37, 38, 39, 40, 41, 42, 43, 26, 27, 28, 29, 30] (by decide +kernel) (by decide +kernel)
set_option maxRecDepth 20000 in
theorem gX3_count_X0_howManyFast : GoodIn wsX3_count (wsV RX3 196 RX0 yX0_howManyFast wsX0_howManyFast) := goodIn_app (goodIn_of _ (by decide +kernel)) ggX3_count_X0_howManyFast
theorem dX3_count_0 : decode cX3_count 0 = .ok (.iload_n 1, 1) := by decide +kernel
theorem dX3_count_1 : decode cX3_count 1 = .ok (.tableswitch 111 0 8 #[51, 59, 67, 75, 83, 88, 93, 101, 106], 51) := by decide +kernel
theorem dX3_count_52 : decode cX3_count 52 = .ok (.aload_n 0, 1) := by decide +kernel
theorem dX3_count_53 : decode cX3_count 53 = .ok (.getfield 19, 3) := by decide +kernel
theorem dX3_count_56 : decode cX3_count 56 = .ok (.getfield 83, 3) := by decide +kernel
theorem dX3_count_59 : decode cX3_count 59 = .ok (.ireturn, 1) := by decide +kernel
theorem dX3_count_60 : decode cX3_count 60 = .ok (.aload_n 0, 1) := by decide +kernel
theorem dX3_count_61 : decode cX3_count 61 = .ok (.getfield 19, 3) := by decide +kernel
theorem dX3_count_64 : decode cX3_count 64 = .ok (.getfield 190, 3) := by decide +kernel
theorem dX3_count_67 : decode cX3_count 67 = .ok (.ireturn, 1) := by decide +kernel
theorem dX3_count_68 : decode cX3_count 68 = .ok (.aload_n 0, 1) := by decide +kernel
theorem dX3_count_69 : decode cX3_count 69 = .ok (.getfield 10, 3) := by decide +kernel
theorem dX3_count_72 : decode cX3_count 72 = .ok (.getfield 193, 3) := by decide +kernel
theorem dX3_count_75 : decode cX3_count 75 = .ok (.ireturn, 1) := by decide +kernel
theorem dX3_count_76 : decode cX3_count 76 = .ok (.aload_n 0, 1) := by decide +kernel
theorem dX3_count_77 : decode cX3_count 77 = .ok (.getfield 28, 3) := by decide +kernel
theorem dX3_count_80 : decode cX3_count 80 = .ok (.getfield 124, 3) := by decide +kernel
theorem dX3_count_83 : decode cX3_count 83 = .ok (.ireturn, 1) := by decide +kernel
theorem dX3_count_84 : decode cX3_count 84 = .ok (.aload_n 0, 1) := by decide +kernel
theorem dX3_count_85 : decode cX3_count 85 = .ok (.getfield 42, 3) := by decide +kernel
theorem dX3_count_88 : decode cX3_count 88 = .ok (.ireturn, 1) := by decide +kernel
theorem dX3_count_89 : decode cX3_count 89 = .ok (.aload_n 0, 1) := by decide +kernel
theorem dX3_count_90 : decode cX3_count 90 = .ok (.getfield 46, 3) := by decide +kernel
theorem dX3_count_93 : decode cX3_count 93 = .ok (.ireturn, 1) := by decide +kernel
theorem dX3_count_94 : decode cX3_count 94 = .ok (.aload_n 0, 1) := by decide +kernel
theorem dX3_count_95 : decode cX3_count 95 = .ok (.getfield 28, 3) := by decide +kernel
theorem dX3_count_98 : decode cX3_count 98 = .ok (.invokevirtual 196, 3) := by decide +kernel
theorem dX3_count_101 : decode cX3_count 101 = .ok (.ireturn, 1) := by decide +kernel
theorem dX3_count_102 : decode cX3_count 102 = .ok (.aload_n 0, 1) := by decide +kernel
theorem dX3_count_103 : decode cX3_count 103 = .ok (.getfield 49, 3) := by decide +kernel
theorem dX3_count_106 : decode cX3_count 106 = .ok (.ireturn, 1) := by decide +kernel
theorem dX3_count_107 : decode cX3_count 107 = .ok (.aload_n 0, 1) := by decide +kernel
theorem dX3_count_108 : decode cX3_count 108 = .ok (.getfield 52, 3) := by decide +kernel
theorem dX3_count_111 : decode cX3_count 111 = .ok (.ireturn, 1) := by decide +kernel
theorem dX3_count_112 : decode cX3_count 112 = .ok (.ldc 55, 2) := by decide +kernel
theorem dX3_count_114 : decode cX3_count 114 = .ok (.ireturn, 1) := by decide +kernel
set_option maxRecDepth 20000 in
theorem ggX3_digest_X3_mixNodes : GoodIn wsX3_digest wsX3_mixNodes := goodIn_r _ [8, 2, 9, 10, 11, 7, 12, 13, 14, 15, 16, 17, 18, 19, 20, 21, 22, 23, 24, 25, 26, 27, 28, 29, 30, 31, 32, 33, 34, 35, 36, 37, 38, 39, 40, 41, 42, 43, 44, 45, 46, 47, 48, 49, 50, 51, 52, 53, 54, 55, 56, 57, 58, 59, 60, 61, 62, 63, 64, 65, 66, 67, 68, 69, 70, 71, 72, 73, 74, 75, 76, 77, 78, 79, 80, 81, 82, 83, 84, 85, 86, 87, 209, 210, 211, 212, 213, 214, 215, 216, 217, 218, 221, 222, 223, 224, 225, 226, 227, 228, 229, 230, 231, 232, 233, 234, 235, 236] (by decide +kernel) (by decide +kernel)
set_option maxRecDepth 20000 in
theorem gX3_digest_X3_mixNodes : GoodIn wsX3_digest (wsV RX3 201 RX3 yX3_mixNodes wsX3_mixNodes) := goodIn_app (goodIn_of _ (by decide +kernel)) ggX3_digest_X3_mixNodes
set_option maxRecDepth 20000 in
theorem ggX3_digest_X3_mixLinks : GoodIn wsX3_digest wsX3_mixLinks := goodIn_r _ [91, 2, 92, 93, 94, 20, 95, 96, 97, 18, 19, 21, 22, 51, 7, 52, 98, 99, 100, 101, 102, 103, 104, 105, 13, 14, 16, 106, 107, 54, 55, 26, 56, 57, 28, 58, 108, 109, 110, 111, 112, 113, 42, 114, 45, 24, 25, 27, 84, 85, 86, 87, 209, 210, 211, 212, 213, 214, 215, 216, 217, 218, 221, 222, 223, 224, 225, 226, 227, 228, 229, 230, 231, 232, 233, 234, 235, 236] (by decide +kernel) (by decide +kernel)
set_option maxRecDepth 20000 in
theorem gX3_digest_X3_mixLinks : GoodIn wsX3_digest (wsV RX3 205 RX3 yX3_mixLinks wsX3_mixLinks) := goodIn_app (goodIn_of _ (by decide +kernel)) ggX3_digest_X3_mixLinks
set_option maxRecDepth 20000 in
theorem ggX3_digest_X1_isRead : GoodIn wsX3_digest wsX1_isRead := goodIn_r _ [118, 22, 221, 222, 223, 224, 225] (by decide +kernel) (by decide +kernel)
set_option maxRecDepth 20000 in
theorem gX3_digest_X1_isRead : GoodIn wsX3_digest (wsV RX3 121 RX1 yX1_isRead wsX1_isRead) := goodIn_app (goodIn_of _ (by decide +kernel)) ggX3_digest_X1_isRead
set_option maxRecDepth 20000 in
theorem ggX3_digest_X3_mixSkews : GoodIn wsX3_digest wsX3_mixSkews := goodIn_r _ [122, 123, 124, 125, 7, 126, 16, 2, 127, 14, 15, 115, 116, 117, 20, 118, 22, 128, 129, 130, 26, 131, 132, 133, 134, 135, 38, 39, 40, 41, 42, 43, 136, 137, 138, 139, 96, 140, 51, 52, 141, 109, 110, 111, 112, 113, 114, 45, 24, 25, 27, 28, 142, 143, 144, 145, 146, 71, 72, 73, 74, 75, 84, 85, 86, 87, 147, 148, 149, 150, 151, 152, 153, 154, 155, 156, 157, 158, 159, 160, 161, 162, 163, 164, 165, 166, 167, 57, 58, 168, 169, 170, 171, 172, 173, 174, 175, 176, 177, 178, 179, 180, 181, 182, 183, 34, 35, 36, 37, 33, 44, 46, 47, 48, 49, 50, 53, 54, 55, 56, 67, 68, 69, 70, 80, 81, 82, 83, 184, 185, 186, 187, 188, 189, 190, 209, 210, 211, 212, 213, 214, 215, 216, 217, 218, 226, 227, 228, 229, 230, 231, 232, 233, 234, 235, 236, 221, 222, 223, 224, 225] (by decide +kernel) (by decide +kernel)
set_option maxRecDepth 20000 in
theorem gX3_digest_X3_mixSkews : GoodIn wsX3_digest (wsV RX3 208 RX3 yX3_mixSkews wsX3_mixSkews) := goodIn_app (goodIn_of _ (by decide +kernel)) ggX3_digest_X3_mixSkews
set_option maxRecDepth 20000 in
theorem ggX3_digest_X2_letterAt : GoodIn wsX3_digest wsX2_letterAt := goodIn_r _ [195, 196, 197, 198, 219, 220] (by decide +kernel) (by decide +kernel)
set_option maxRecDepth 20000 in
theorem gX3_digest_X2_letterAt : GoodIn wsX3_digest (wsV RX3 211 RX2 yX2_letterAt wsX2_letterAt) := goodIn_app (goodIn_of _ (by decide +kernel)) ggX3_digest_X2_letterAt
set_option maxRecDepth 20000 in
theorem ggX3_digest_X3_mix : GoodIn wsX3_digest wsX3_mix := goodIn_r _ [86, 87] (by decide +kernel) (by decide +kernel)
set_option maxRecDepth 20000 in
theorem gX3_digest_X3_mix : GoodIn wsX3_digest (va_wsS RX3 214 yX3_mix wsX3_mix) := goodIn_app (goodIn_of _ (by decide +kernel)) ggX3_digest_X3_mix
set_option maxRecDepth 20000 in
theorem ggX3_digest_X3_count : GoodIn wsX3_digest wsX3_count := goodIn_r _ [202, 2, 3, 14, 15, 157, 203, 204, 16, 205, 206, 207, 26, 208, 39, 174, 209, 210, 211, 212, 213, 214, 215, 216, 217, 218, 221, 222, 223, 224, 225, 219, 220, 226, 227, 228, 229, 230, 231, 232, 233, 234, 235, 236] (by decide +kernel) (by decide +kernel)
set_option maxRecDepth 20000 in
theorem gX3_digest_X3_count : GoodIn wsX3_digest (wsV RX3 218 RX3 yX3_count wsX3_count) := goodIn_app (goodIn_of _ (by decide +kernel)) ggX3_digest_X3_count
theorem dX3_digest_0 : decode cX3_digest 0 = .ok (.aload_n 0, 1) := by decide +kernel
theorem dX3_digest_1 : decode cX3_digest 1 = .ok (.ldc2_w 199, 3) := by decide +kernel
theorem dX3_digest_4 : decode cX3_digest 4 = .ok (.invokevirtual 201, 3) := by decide +kernel
theorem dX3_digest_7 : decode cX3_digest 7 = .ok (.lstore_n 1, 1) := by decide +kernel
theorem dX3_digest_8 : decode cX3_digest 8 = .ok (.aload_n 0, 1) := by decide +kernel
theorem dX3_digest_9 : decode cX3_digest 9 = .ok (.lload_n 1, 1) := by decide +kernel
theorem dX3_digest_10 : decode cX3_digest 10 = .ok (.invokevirtual 205, 3) := by decide +kernel
theorem dX3_digest_13 : decode cX3_digest 13 = .ok (.lstore_n 1, 1) := by decide +kernel
theorem dX3_digest_14 : decode cX3_digest 14 = .ok (.aload_n 0, 1) := by decide +kernel
theorem dX3_digest_15 : decode cX3_digest 15 = .ok (.getfield 19, 3) := by decide +kernel
theorem dX3_digest_18 : decode cX3_digest 18 = .ok (.invokevirtual 121, 3) := by decide +kernel
theorem dX3_digest_21 : decode cX3_digest 21 = .ok (.ifCond .eq 9, 3) := by decide +kernel
theorem dX3_digest_24 : decode cX3_digest 24 = .ok (.aload_n 0, 1) := by decide +kernel
theorem dX3_digest_25 : decode cX3_digest 25 = .ok (.lload_n 1, 1) := by decide +kernel
theorem dX3_digest_26 : decode cX3_digest 26 = .ok (.invokevirtual 208, 3) := by decide +kernel
theorem dX3_digest_29 : decode cX3_digest 29 = .ok (.lstore_n 1, 1) := by decide +kernel
theorem dX3_digest_30 : decode cX3_digest 30 = .ok (.iconst 0, 1) := by decide +kernel
theorem dX3_digest_31 : decode cX3_digest 31 = .ok (.istore_n 3, 1) := by decide +kernel
theorem dX3_digest_32 : decode cX3_digest 32 = .ok (.iload_n 3, 1) := by decide +kernel
theorem dX3_digest_33 : decode cX3_digest 33 = .ok (.aload_n 0, 1) := by decide +kernel
theorem dX3_digest_34 : decode cX3_digest 34 = .ok (.getfield 10, 3) := by decide +kernel
theorem dX3_digest_37 : decode cX3_digest 37 = .ok (.getfield 193, 3) := by decide +kernel
theorem dX3_digest_40 : decode cX3_digest 40 = .ok (.if_icmp .ge 22, 3) := by decide +kernel
theorem dX3_digest_43 : decode cX3_digest 43 = .ok (.lload_n 1, 1) := by decide +kernel
theorem dX3_digest_44 : decode cX3_digest 44 = .ok (.aload_n 0, 1) := by decide +kernel
theorem dX3_digest_45 : decode cX3_digest 45 = .ok (.getfield 10, 3) := by decide +kernel
theorem dX3_digest_48 : decode cX3_digest 48 = .ok (.iload_n 3, 1) := by decide +kernel
theorem dX3_digest_49 : decode cX3_digest 49 = .ok (.invokevirtual 211, 3) := by decide +kernel
theorem dX3_digest_52 : decode cX3_digest 52 = .ok (.invokestatic 214, 3) := by decide +kernel
theorem dX3_digest_55 : decode cX3_digest 55 = .ok (.lstore_n 1, 1) := by decide +kernel
theorem dX3_digest_56 : decode cX3_digest 56 = .ok (.iinc 3 1, 3) := by decide +kernel
theorem dX3_digest_59 : decode cX3_digest 59 = .ok (.goto (-27), 3) := by decide +kernel
theorem dX3_digest_62 : decode cX3_digest 62 = .ok (.iconst 0, 1) := by decide +kernel
theorem dX3_digest_63 : decode cX3_digest 63 = .ok (.istore_n 3, 1) := by decide +kernel
theorem dX3_digest_64 : decode cX3_digest 64 = .ok (.iload_n 3, 1) := by decide +kernel
theorem dX3_digest_65 : decode cX3_digest 65 = .ok (.bipush 8, 2) := by decide +kernel
theorem dX3_digest_67 : decode cX3_digest 67 = .ok (.if_icmp .gt 19, 3) := by decide +kernel
theorem dX3_digest_70 : decode cX3_digest 70 = .ok (.lload_n 1, 1) := by decide +kernel
theorem dX3_digest_71 : decode cX3_digest 71 = .ok (.aload_n 0, 1) := by decide +kernel
theorem dX3_digest_72 : decode cX3_digest 72 = .ok (.iload_n 3, 1) := by decide +kernel
theorem dX3_digest_73 : decode cX3_digest 73 = .ok (.invokevirtual 218, 3) := by decide +kernel
theorem dX3_digest_76 : decode cX3_digest 76 = .ok (.invokestatic 214, 3) := by decide +kernel
theorem dX3_digest_79 : decode cX3_digest 79 = .ok (.lstore_n 1, 1) := by decide +kernel
theorem dX3_digest_80 : decode cX3_digest 80 = .ok (.iinc 3 1, 3) := by decide +kernel
theorem dX3_digest_83 : decode cX3_digest 83 = .ok (.goto (-19), 3) := by decide +kernel
theorem dX3_digest_86 : decode cX3_digest 86 = .ok (.lload_n 1, 1) := by decide +kernel
theorem dX3_digest_87 : decode cX3_digest 87 = .ok (.lreturn, 1) := by decide +kernel
set_option maxRecDepth 20000 in
theorem ggX3_mixNodes_X3_node : GoodIn wsX3_mixNodes wsX3_node := goodIn_r _ [6, 1, 7, 8, 9, 10, 11, 12, 13, 14, 15, 16, 17, 18, 19, 20, 21, 22, 23, 24, 25, 26, 27, 28, 29, 30, 31, 32, 33, 34, 35, 36, 37, 38, 39, 40, 41, 42, 43, 44, 45, 5, 46, 47, 48, 49, 50, 51, 52, 53, 54, 55, 56, 57, 58, 59, 60, 61, 62, 63, 64, 65, 66, 67, 68, 69, 70, 71, 72, 73, 74, 75, 76, 77, 82, 83, 84, 85, 86, 87, 88, 89, 90, 91, 97, 98, 99, 100, 101, 102, 103, 104, 105, 106, 107, 92, 93, 94, 95, 96] (by decide +kernel) (by decide +kernel)
set_option maxRecDepth 20000 in
theorem gX3_mixNodes_X3_node : GoodIn wsX3_mixNodes (wsV RX3 221 RX3 yX3_node wsX3_node) := goodIn_app (goodIn_of _ (by decide +kernel)) ggX3_mixNodes_X3_node
set_option maxRecDepth 20000 in
theorem ggX3_mixNodes_X3_mix : GoodIn wsX3_mixNodes wsX3_mix := goodIn_r _ [80, 81] (by decide +kernel) (by decide +kernel)
set_option maxRecDepth 20000 in
theorem gX3_mixNodes_X3_mix : GoodIn wsX3_mixNodes (va_wsS RX3 214 yX3_mix wsX3_mix) := goodIn_app (goodIn_of _ (by decide +kernel)) ggX3_mixNodes_X3_mix
theorem dX3_mixNodes_0 : decode cX3_mixNodes 0 = .ok (.lload_n 1, 1) := by decide +kernel
theorem dX3_mixNodes_1 : decode cX3_mixNodes 1 = .ok (.lstore_n 3, 1) := by decide +kernel
theorem dX3_mixNodes_2 : decode cX3_mixNodes 2 = .ok (.iconst 0, 1) := by decide +kernel
theorem dX3_mixNodes_3 : decode cX3_mixNodes 3 = .ok (.istore 5, 2) := by decide +kernel
theorem dX3_mixNodes_5 : decode cX3_mixNodes 5 = .ok (.iload 5, 2) := by decide +kernel
theorem dX3_mixNodes_7 : decode cX3_mixNodes 7 = .ok (.aload_n 0, 1) := by decide +kernel
theorem dX3_mixNodes_8 : decode cX3_mixNodes 8 = .ok (.getfield 19, 3) := by decide +kernel
theorem dX3_mixNodes_11 : decode cX3_mixNodes 11 = .ok (.getfield 83, 3) := by decide +kernel
theorem dX3_mixNodes_14 : decode cX3_mixNodes 14 = .ok (.if_icmp .ge 38, 3) := by decide +kernel
theorem dX3_mixNodes_17 : decode cX3_mixNodes 17 = .ok (.iconst 0, 1) := by decide +kernel
theorem dX3_mixNodes_18 : decode cX3_mixNodes 18 = .ok (.istore 6, 2) := by decide +kernel
theorem dX3_mixNodes_20 : decode cX3_mixNodes 20 = .ok (.iload 6, 2) := by decide +kernel
theorem dX3_mixNodes_22 : decode cX3_mixNodes 22 = .ok (.bipush 8, 2) := by decide +kernel
theorem dX3_mixNodes_24 : decode cX3_mixNodes 24 = .ok (.if_icmp .gt 22, 3) := by decide +kernel
theorem dX3_mixNodes_27 : decode cX3_mixNodes 27 = .ok (.lload_n 3, 1) := by decide +kernel
theorem dX3_mixNodes_28 : decode cX3_mixNodes 28 = .ok (.aload_n 0, 1) := by decide +kernel
theorem dX3_mixNodes_29 : decode cX3_mixNodes 29 = .ok (.iload 5, 2) := by decide +kernel
theorem dX3_mixNodes_31 : decode cX3_mixNodes 31 = .ok (.iload 6, 2) := by decide +kernel
end
section
theorem dX3_mixNodes_33 : decode cX3_mixNodes 33 = .ok (.invokevirtual 221, 3) := by decide +kernel
theorem dX3_mixNodes_36 : decode cX3_mixNodes 36 = .ok (.invokestatic 214, 3) := by decide +kernel
theorem dX3_mixNodes_39 : decode cX3_mixNodes 39 = .ok (.lstore_n 3, 1) := by decide +kernel
theorem dX3_mixNodes_40 : decode cX3_mixNodes 40 = .ok (.iinc 6 1, 3) := by decide +kernel
theorem dX3_mixNodes_43 : decode cX3_mixNodes 43 = .ok (.goto (-23), 3) := by decide +kernel
theorem dX3_mixNodes_46 : decode cX3_mixNodes 46 = .ok (.iinc 5 1, 3) := by decide +kernel
theorem dX3_mixNodes_49 : decode cX3_mixNodes 49 = .ok (.goto (-44), 3) := by decide +kernel
theorem dX3_mixNodes_52 : decode cX3_mixNodes 52 = .ok (.lload_n 3, 1) := by decide +kernel
theorem dX3_mixNodes_53 : decode cX3_mixNodes 53 = .ok (.lreturn, 1) := by decide +kernel
set_option maxRecDepth 20000 in
theorem ggX3_mixLinks_X1_hasLink : GoodIn wsX3_mixLinks wsX1_hasLink := goodIn_r _ [6, 7, 8, 9, 10, 5, 11, 12, 13, 14, 15, 62, 63, 64, 65, 66] (by decide +kernel) (by decide +kernel)
set_option maxRecDepth 20000 in
theorem gX3_mixLinks_X1_hasLink : GoodIn wsX3_mixLinks (wsV RX3 103 RX1 yX1_hasLink wsX1_hasLink) := goodIn_app (goodIn_of _ (by decide +kernel)) ggX3_mixLinks_X1_hasLink
set_option maxRecDepth 20000 in
theorem ggX3_mixLinks_X3_mixLink : GoodIn wsX3_mixLinks wsX3_mixLink := goodIn_r _ [19, 20, 21, 22, 14, 23, 1, 24, 25, 26, 2, 3, 4, 5, 6, 7, 8, 9, 10, 11, 12, 13, 15, 27, 28, 29, 30, 31, 32, 33, 34, 35, 36, 37, 38, 39, 40, 41, 42, 43, 44, 45, 46, 47, 48, 49, 50, 51, 52, 53, 54, 55, 56, 57, 58, 59, 60, 61, 67, 68, 69, 70, 71, 72, 73, 74, 75, 76, 77, 62, 63, 64, 65, 66] (by decide +kernel) (by decide +kernel)
set_option maxRecDepth 20000 in
theorem gX3_mixLinks_X3_mixLink : GoodIn wsX3_mixLinks (wsV RX3 224 RX3 yX3_mixLink wsX3_mixLink) := goodIn_app (goodIn_of _ (by decide +kernel)) ggX3_mixLinks_X3_mixLink
theorem dX3_mixLinks_0 : decode cX3_mixLinks 0 = .ok (.lload_n 1, 1) := by decide +kernel
theorem dX3_mixLinks_1 : decode cX3_mixLinks 1 = .ok (.lstore_n 3, 1) := by decide +kernel
theorem dX3_mixLinks_2 : decode cX3_mixLinks 2 = .ok (.iconst 0, 1) := by decide +kernel
theorem dX3_mixLinks_3 : decode cX3_mixLinks 3 = .ok (.istore 5, 2) := by decide +kernel
theorem dX3_mixLinks_5 : decode cX3_mixLinks 5 = .ok (.iload 5, 2) := by decide +kernel
theorem dX3_mixLinks_7 : decode cX3_mixLinks 7 = .ok (.aload_n 0, 1) := by decide +kernel
theorem dX3_mixLinks_8 : decode cX3_mixLinks 8 = .ok (.getfield 19, 3) := by decide +kernel
theorem dX3_mixLinks_11 : decode cX3_mixLinks 11 = .ok (.getfield 83, 3) := by decide +kernel
theorem dX3_mixLinks_14 : decode cX3_mixLinks 14 = .ok (.if_icmp .ge 65, 3) := by decide +kernel
theorem dX3_mixLinks_17 : decode cX3_mixLinks 17 = .ok (.iload 5, 2) := by decide +kernel
theorem dX3_mixLinks_19 : decode cX3_mixLinks 19 = .ok (.iconst 1, 1) := by decide +kernel
theorem dX3_mixLinks_20 : decode cX3_mixLinks 20 = .ok (.iadd, 1) := by decide +kernel
theorem dX3_mixLinks_21 : decode cX3_mixLinks 21 = .ok (.istore 6, 2) := by decide +kernel
theorem dX3_mixLinks_23 : decode cX3_mixLinks 23 = .ok (.iload 6, 2) := by decide +kernel
theorem dX3_mixLinks_25 : decode cX3_mixLinks 25 = .ok (.aload_n 0, 1) := by decide +kernel
theorem dX3_mixLinks_26 : decode cX3_mixLinks 26 = .ok (.getfield 19, 3) := by decide +kernel
theorem dX3_mixLinks_29 : decode cX3_mixLinks 29 = .ok (.getfield 83, 3) := by decide +kernel
theorem dX3_mixLinks_32 : decode cX3_mixLinks 32 = .ok (.if_icmp .ge 41, 3) := by decide +kernel
theorem dX3_mixLinks_35 : decode cX3_mixLinks 35 = .ok (.aload_n 0, 1) := by decide +kernel
theorem dX3_mixLinks_36 : decode cX3_mixLinks 36 = .ok (.getfield 19, 3) := by decide +kernel
theorem dX3_mixLinks_39 : decode cX3_mixLinks 39 = .ok (.iload 5, 2) := by decide +kernel
theorem dX3_mixLinks_41 : decode cX3_mixLinks 41 = .ok (.iload 6, 2) := by decide +kernel
theorem dX3_mixLinks_43 : decode cX3_mixLinks 43 = .ok (.invokevirtual 103, 3) := by decide +kernel
theorem dX3_mixLinks_46 : decode cX3_mixLinks 46 = .ok (.ifCond .eq 21, 3) := by decide +kernel
theorem dX3_mixLinks_49 : decode cX3_mixLinks 49 = .ok (.aload_n 0, 1) := by decide +kernel
theorem dX3_mixLinks_50 : decode cX3_mixLinks 50 = .ok (.aload_n 0, 1) := by decide +kernel
theorem dX3_mixLinks_51 : decode cX3_mixLinks 51 = .ok (.lload_n 3, 1) := by decide +kernel
theorem dX3_mixLinks_52 : decode cX3_mixLinks 52 = .ok (.iload 5, 2) := by decide +kernel
theorem dX3_mixLinks_54 : decode cX3_mixLinks 54 = .ok (.iload 6, 2) := by decide +kernel
theorem dX3_mixLinks_56 : decode cX3_mixLinks 56 = .ok (.invokevirtual 224, 3) := by decide +kernel
theorem dX3_mixLinks_59 : decode cX3_mixLinks 59 = .ok (.iload 6, 2) := by decide +kernel
theorem dX3_mixLinks_61 : decode cX3_mixLinks 61 = .ok (.iload 5, 2) := by decide +kernel
theorem dX3_mixLinks_63 : decode cX3_mixLinks 63 = .ok (.invokevirtual 224, 3) := by decide +kernel
theorem dX3_mixLinks_66 : decode cX3_mixLinks 66 = .ok (.lstore_n 3, 1) := by decide +kernel
theorem dX3_mixLinks_67 : decode cX3_mixLinks 67 = .ok (.iinc 6 1, 3) := by decide +kernel
theorem dX3_mixLinks_70 : decode cX3_mixLinks 70 = .ok (.goto (-47), 3) := by decide +kernel
theorem dX3_mixLinks_73 : decode cX3_mixLinks 73 = .ok (.iinc 5 1, 3) := by decide +kernel
theorem dX3_mixLinks_76 : decode cX3_mixLinks 76 = .ok (.goto (-71), 3) := by decide +kernel
theorem dX3_mixLinks_79 : decode cX3_mixLinks 79 = .ok (.lload_n 3, 1) := by decide +kernel
theorem dX3_mixLinks_80 : decode cX3_mixLinks 80 = .ok (.lreturn, 1) := by decide +kernel
set_option maxRecDepth 20000 in
theorem ggX3_mixLink_X3_link : GoodIn wsX3_mixLink wsX3_link := goodIn_r _ [5, 6, 7, 8, 9, 10, 11, 12, 13, 14, 15, 16, 17, 18, 19, 20, 21, 4, 22, 23, 24, 25, 26, 27, 28, 29, 30, 31, 32, 33, 34, 35, 36, 37, 38, 39, 40, 41, 42, 43, 48, 49, 50, 51, 52, 53, 54, 55, 56, 57, 58, 59, 60, 61, 62, 63, 64, 65, 66, 67, 68, 69, 70, 71, 72, 73] (by decide +kernel) (by decide +kernel)
set_option maxRecDepth 20000 in
theorem gX3_mixLink_X3_link : GoodIn wsX3_mixLink (wsV RX3 228 RX3 yX3_link wsX3_link) := goodIn_app (goodIn_of _ (by decide +kernel)) ggX3_mixLink_X3_link
set_option maxRecDepth 20000 in
theorem ggX3_mixLink_X3_mix : GoodIn wsX3_mixLink wsX3_mix := goodIn_r _ [46, 47] (by decide +kernel) (by decide +kernel)
set_option maxRecDepth 20000 in
theorem gX3_mixLink_X3_mix : GoodIn wsX3_mixLink (va_wsS RX3 214 yX3_mix wsX3_mix) := goodIn_app (goodIn_of _ (by decide +kernel)) ggX3_mixLink_X3_mix
theorem dX3_mixLink_0 : decode cX3_mixLink 0 = .ok (.lload_n 1, 1) := by decide +kernel
theorem dX3_mixLink_1 : decode cX3_mixLink 1 = .ok (.lstore 5, 2) := by decide +kernel
theorem dX3_mixLink_3 : decode cX3_mixLink 3 = .ok (.iconst 0, 1) := by decide +kernel
theorem dX3_mixLink_4 : decode cX3_mixLink 4 = .ok (.istore 7, 2) := by decide +kernel
theorem dX3_mixLink_6 : decode cX3_mixLink 6 = .ok (.iload 7, 2) := by decide +kernel
theorem dX3_mixLink_8 : decode cX3_mixLink 8 = .ok (.iconst 3, 1) := by decide +kernel
theorem dX3_mixLink_9 : decode cX3_mixLink 9 = .ok (.if_icmp .gt 25, 3) := by decide +kernel
theorem dX3_mixLink_12 : decode cX3_mixLink 12 = .ok (.lload 5, 2) := by decide +kernel
theorem dX3_mixLink_14 : decode cX3_mixLink 14 = .ok (.aload_n 0, 1) := by decide +kernel
theorem dX3_mixLink_15 : decode cX3_mixLink 15 = .ok (.iload_n 3, 1) := by decide +kernel
theorem dX3_mixLink_16 : decode cX3_mixLink 16 = .ok (.iload 4, 2) := by decide +kernel
theorem dX3_mixLink_18 : decode cX3_mixLink 18 = .ok (.iload 7, 2) := by decide +kernel
theorem dX3_mixLink_20 : decode cX3_mixLink 20 = .ok (.invokevirtual 228, 3) := by decide +kernel
theorem dX3_mixLink_23 : decode cX3_mixLink 23 = .ok (.invokestatic 214, 3) := by decide +kernel
theorem dX3_mixLink_26 : decode cX3_mixLink 26 = .ok (.lstore 5, 2) := by decide +kernel
theorem dX3_mixLink_28 : decode cX3_mixLink 28 = .ok (.iinc 7 1, 3) := by decide +kernel
theorem dX3_mixLink_31 : decode cX3_mixLink 31 = .ok (.goto (-25), 3) := by decide +kernel
theorem dX3_mixLink_34 : decode cX3_mixLink 34 = .ok (.lload 5, 2) := by decide +kernel
theorem dX3_mixLink_36 : decode cX3_mixLink 36 = .ok (.lreturn, 1) := by decide +kernel
set_option maxRecDepth 20000 in
theorem ggX3_mixSkews_X3_skew : GoodIn wsX3_mixSkews wsX3_skew := goodIn_r _ [5, 6, 7, 8, 9, 10, 11, 12, 13, 14, 15, 16, 17, 18, 19, 20, 21, 22, 23, 24, 25, 26, 27, 28, 29, 30, 31, 32, 33, 34, 35, 36, 37, 38, 4, 39, 40, 41, 42, 43, 44, 45, 46, 47, 48, 49, 50, 51, 52, 53, 54, 55, 56, 57, 58, 59, 60, 61, 135, 136, 137, 138, 139, 140, 141, 142, 143, 144, 145, 146, 147, 148, 149, 150, 151, 152, 153, 154, 155, 156, 157, 158, 159, 160] (by decide +kernel) (by decide +kernel)
set_option maxRecDepth 20000 in
theorem gX3_mixSkews_X3_skew : GoodIn wsX3_mixSkews (wsV RX3 232 RX3 yX3_skew wsX3_skew) := goodIn_app (goodIn_of _ (by decide +kernel)) ggX3_mixSkews_X3_skew
set_option maxRecDepth 20000 in
theorem ggX3_mixSkews_X3_mix : GoodIn wsX3_mixSkews wsX3_mix := goodIn_r _ [64, 65] (by decide +kernel) (by decide +kernel)
set_option maxRecDepth 20000 in
theorem gX3_mixSkews_X3_mix : GoodIn wsX3_mixSkews (va_wsS RX3 214 yX3_mix wsX3_mix) := goodIn_app (goodIn_of _ (by decide +kernel)) ggX3_mixSkews_X3_mix
set_option maxRecDepth 20000 in
theorem ggX3_mixSkews_X3_spread : GoodIn wsX3_mixSkews wsX3_spread := goodIn_r _ [69, 6, 7, 8, 9, 11, 12, 13, 14, 15, 16, 70, 23, 24, 20, 25, 26, 27, 28, 29, 30, 31, 32, 33, 34, 35, 36, 37, 38, 4, 39, 40, 41, 42, 43, 44, 45, 46, 47, 48, 49, 50, 51, 135, 136, 137, 138, 139, 140, 141, 142, 143, 144, 156, 157, 158, 159, 160, 145, 146, 147, 148, 149, 150, 151, 152, 153, 154, 155] (by decide +kernel) (by decide +kernel)
set_option maxRecDepth 20000 in
theorem gX3_mixSkews_X3_spread : GoodIn wsX3_mixSkews (wsV RX3 235 RX3 yX3_spread wsX3_spread) := goodIn_app (goodIn_of _ (by decide +kernel)) ggX3_mixSkews_X3_spread
set_option maxRecDepth 20000 in
theorem ggX3_mixSkews_X3_searchWorst : GoodIn wsX3_mixSkews wsX3_searchWorst := goodIn_r _ [74, 75, 9, 7, 10, 76, 77, 78, 79, 20, 80, 81, 82, 83, 84, 85, 86, 87, 88, 89, 90, 91, 92, 93, 94, 51, 95, 96, 97, 98, 99, 100, 27, 101, 102, 103, 104, 26, 105, 106, 107, 108, 28, 29, 30, 31, 109, 110, 47, 48, 49, 50, 111, 112, 113, 14, 114, 115, 38, 4, 39, 116, 117, 118, 119, 120, 121, 122, 123, 57, 58, 59, 60, 61, 124, 125, 126, 127, 17, 18, 19, 21, 22, 23, 24, 25, 32, 33, 34, 35, 36, 37, 40, 41, 42, 43, 44, 45, 46, 135, 136, 137, 138, 139, 140, 141, 142, 143, 144, 156, 157, 158, 159, 160, 145, 146, 147, 148, 149, 150, 151, 152, 153, 154, 155] (by decide +kernel) (by decide +kernel)
set_option maxRecDepth 20000 in
theorem gX3_mixSkews_X3_searchWorst : GoodIn wsX3_mixSkews (wsV RX3 175 RX3 yX3_searchWorst wsX3_searchWorst) := goodIn_app (goodIn_of _ (by decide +kernel)) ggX3_mixSkews_X3_searchWorst
set_option maxRecDepth 20000 in
theorem ggX3_mixSkews_X3_skewOfWorst : GoodIn wsX3_mixSkews wsX3_skewOfWorst := goodIn_r _ [130] (by decide +kernel) (by decide +kernel)
set_option maxRecDepth 20000 in
theorem gX3_mixSkews_X3_skewOfWorst : GoodIn wsX3_mixSkews (va_wsS RX3 179 yX3_skewOfWorst wsX3_skewOfWorst) := goodIn_app (goodIn_of _ (by decide +kernel)) ggX3_mixSkews_X3_skewOfWorst
set_option maxRecDepth 20000 in
theorem ggX3_mixSkews_X3_nodesOfWorst : GoodIn wsX3_mixSkews wsX3_nodesOfWorst := goodIn_r _ [133, 134] (by decide +kernel) (by decide +kernel)
set_option maxRecDepth 20000 in
theorem gX3_mixSkews_X3_nodesOfWorst : GoodIn wsX3_mixSkews (va_wsS RX3 183 yX3_nodesOfWorst wsX3_nodesOfWorst) := goodIn_app (goodIn_of _ (by decide +kernel)) ggX3_mixSkews_X3_nodesOfWorst
theorem dX3_mixSkews_0 : decode cX3_mixSkews 0 = .ok (.lload_n 1, 1) := by decide +kernel
theorem dX3_mixSkews_1 : decode cX3_mixSkews 1 = .ok (.lstore_n 3, 1) := by decide +kernel
theorem dX3_mixSkews_2 : decode cX3_mixSkews 2 = .ok (.iconst 0, 1) := by decide +kernel
theorem dX3_mixSkews_3 : decode cX3_mixSkews 3 = .ok (.istore 5, 2) := by decide +kernel
theorem dX3_mixSkews_5 : decode cX3_mixSkews 5 = .ok (.iload 5, 2) := by decide +kernel
theorem dX3_mixSkews_7 : decode cX3_mixSkews 7 = .ok (.iconst 3, 1) := by decide +kernel
theorem dX3_mixSkews_8 : decode cX3_mixSkews 8 = .ok (.if_icmp .gt 20, 3) := by decide +kernel
theorem dX3_mixSkews_11 : decode cX3_mixSkews 11 = .ok (.lload_n 3, 1) := by decide +kernel
theorem dX3_mixSkews_12 : decode cX3_mixSkews 12 = .ok (.aload_n 0, 1) := by decide +kernel
theorem dX3_mixSkews_13 : decode cX3_mixSkews 13 = .ok (.iload 5, 2) := by decide +kernel
theorem dX3_mixSkews_15 : decode cX3_mixSkews 15 = .ok (.invokevirtual 232, 3) := by decide +kernel
theorem dX3_mixSkews_18 : decode cX3_mixSkews 18 = .ok (.invokestatic 214, 3) := by decide +kernel
theorem dX3_mixSkews_21 : decode cX3_mixSkews 21 = .ok (.lstore_n 3, 1) := by decide +kernel
theorem dX3_mixSkews_22 : decode cX3_mixSkews 22 = .ok (.iinc 5 1, 3) := by decide +kernel
theorem dX3_mixSkews_25 : decode cX3_mixSkews 25 = .ok (.goto (-20), 3) := by decide +kernel
theorem dX3_mixSkews_28 : decode cX3_mixSkews 28 = .ok (.iconst 1, 1) := by decide +kernel
theorem dX3_mixSkews_29 : decode cX3_mixSkews 29 = .ok (.istore 5, 2) := by decide +kernel
theorem dX3_mixSkews_31 : decode cX3_mixSkews 31 = .ok (.iload 5, 2) := by decide +kernel
theorem dX3_mixSkews_33 : decode cX3_mixSkews 33 = .ok (.bipush 6, 2) := by decide +kernel
theorem dX3_mixSkews_35 : decode cX3_mixSkews 35 = .ok (.if_icmp .ge 20, 3) := by decide +kernel
theorem dX3_mixSkews_38 : decode cX3_mixSkews 38 = .ok (.lload_n 3, 1) := by decide +kernel
theorem dX3_mixSkews_39 : decode cX3_mixSkews 39 = .ok (.aload_n 0, 1) := by decide +kernel
theorem dX3_mixSkews_40 : decode cX3_mixSkews 40 = .ok (.iload 5, 2) := by decide +kernel
theorem dX3_mixSkews_42 : decode cX3_mixSkews 42 = .ok (.invokevirtual 235, 3) := by decide +kernel
theorem dX3_mixSkews_45 : decode cX3_mixSkews 45 = .ok (.invokestatic 214, 3) := by decide +kernel
theorem dX3_mixSkews_48 : decode cX3_mixSkews 48 = .ok (.lstore_n 3, 1) := by decide +kernel
theorem dX3_mixSkews_49 : decode cX3_mixSkews 49 = .ok (.iinc 5 1, 3) := by decide +kernel
theorem dX3_mixSkews_52 : decode cX3_mixSkews 52 = .ok (.goto (-21), 3) := by decide +kernel
theorem dX3_mixSkews_55 : decode cX3_mixSkews 55 = .ok (.aload_n 0, 1) := by decide +kernel
theorem dX3_mixSkews_56 : decode cX3_mixSkews 56 = .ok (.iconst 3, 1) := by decide +kernel
theorem dX3_mixSkews_57 : decode cX3_mixSkews 57 = .ok (.invokevirtual 175, 3) := by decide +kernel
theorem dX3_mixSkews_60 : decode cX3_mixSkews 60 = .ok (.lstore 5, 2) := by decide +kernel
theorem dX3_mixSkews_62 : decode cX3_mixSkews 62 = .ok (.lload_n 3, 1) := by decide +kernel
theorem dX3_mixSkews_63 : decode cX3_mixSkews 63 = .ok (.lload 5, 2) := by decide +kernel
theorem dX3_mixSkews_65 : decode cX3_mixSkews 65 = .ok (.invokestatic 179, 3) := by decide +kernel
theorem dX3_mixSkews_68 : decode cX3_mixSkews 68 = .ok (.invokestatic 214, 3) := by decide +kernel
theorem dX3_mixSkews_71 : decode cX3_mixSkews 71 = .ok (.lstore_n 3, 1) := by decide +kernel
theorem dX3_mixSkews_72 : decode cX3_mixSkews 72 = .ok (.lload_n 3, 1) := by decide +kernel
theorem dX3_mixSkews_73 : decode cX3_mixSkews 73 = .ok (.lload 5, 2) := by decide +kernel
theorem dX3_mixSkews_75 : decode cX3_mixSkews 75 = .ok (.invokestatic 183, 3) := by decide +kernel
theorem dX3_mixSkews_78 : decode cX3_mixSkews 78 = .ok (.invokestatic 214, 3) := by decide +kernel
theorem dX3_mixSkews_81 : decode cX3_mixSkews 81 = .ok (.lreturn, 1) := by decide +kernel
theorem dX3_mix_0 : decode cX3_mix 0 = .ok (.ldc2_w 238, 3) := by decide +kernel
theorem dX3_mix_3 : decode cX3_mix 3 = .ok (.lload_n 0, 1) := by decide +kernel
theorem dX3_mix_4 : decode cX3_mix 4 = .ok (.lmul, 1) := by decide +kernel
theorem dX3_mix_5 : decode cX3_mix 5 = .ok (.iload_n 2, 1) := by decide +kernel
theorem dX3_mix_6 : decode cX3_mix 6 = .ok (.i2l, 1) := by decide +kernel
theorem dX3_mix_7 : decode cX3_mix 7 = .ok (.ladd, 1) := by decide +kernel
theorem dX3_mix_8 : decode cX3_mix 8 = .ok (.lreturn, 1) := by decide +kernel
set_option maxRecDepth 20000 in
theorem ggX3_searchWorst_X0_copyAll : GoodIn wsX3_searchWorst wsX0_copyAll := goodIn_r _ [10, 11, 12, 13, 14, 15, 16, 17, 18, 19, 20, 21, 22, 23, 9, 24, 25, 26, 114, 115, 116, 117, 118, 119, 120, 121, 122, 123, 124] (by decide +kernel) (by decide +kernel)
set_option maxRecDepth 20000 in
theorem gX3_searchWorst_X0_copyAll : GoodIn wsX3_searchWorst (wsV RX3 186 RX0 yX0_copyAll wsX0_copyAll) := goodIn_app (goodIn_of _ (by decide +kernel)) ggX3_searchWorst_X0_copyAll
set_option maxRecDepth 20000 in
theorem ggX3_searchWorst_X0_copyMotion : GoodIn wsX3_searchWorst wsX0_copyMotion := goodIn_r _ [24, 25, 12, 13, 14, 15, 26, 114, 115, 116, 117, 118, 119, 120, 121, 122, 123, 124] (by decide +kernel) (by decide +kernel)
set_option maxRecDepth 20000 in
theorem gX3_searchWorst_X0_copyMotion : GoodIn wsX3_searchWorst (wsV RX3 240 RX0 yX0_copyMotion wsX0_copyMotion) := goodIn_app (goodIn_of _ (by decide +kernel)) ggX3_searchWorst_X0_copyMotion
set_option maxRecDepth 20000 in
theorem ggX3_searchWorst_X0_tellRates : GoodIn wsX3_searchWorst wsX0_tellRates := goodIn_r _ [31, 32, 11, 114, 115, 116, 117, 118, 119, 120, 121, 122, 123, 124, 109, 110, 111, 112, 113] (by decide +kernel) (by decide +kernel)
set_option maxRecDepth 20000 in
theorem gX3_searchWorst_X0_tellRates : GoodIn wsX3_searchWorst (wsV RX3 243 RX0 yX0_tellRates wsX0_tellRates) := goodIn_app (goodIn_of _ (by decide +kernel)) ggX3_searchWorst_X0_tellRates
set_option maxRecDepth 20000 in
theorem ggX3_searchWorst_X0_move : GoodIn wsX3_searchWorst wsX0_move := goodIn_r _ [36, 32, 37, 26, 25, 12, 13, 14, 15, 11, 38, 39, 40, 9, 41, 42, 43, 44, 45, 46, 47, 48, 49, 50, 51, 52, 53, 54, 55, 56, 57, 58, 59, 60, 61, 62, 63, 64, 17, 18, 65, 66, 67, 68, 69, 70, 71, 72, 73, 74, 75, 76, 77, 114, 115, 116, 117, 118, 119, 120, 121, 122, 123, 124, 109, 110, 111, 112, 113] (by decide +kernel) (by decide +kernel)
set_option maxRecDepth 20000 in
theorem gX3_searchWorst_X0_move : GoodIn wsX3_searchWorst (wsV RX3 247 RX0 yX0_move wsX0_move) := goodIn_app (goodIn_of _ (by decide +kernel)) ggX3_searchWorst_X0_move
set_option maxRecDepth 20000 in
theorem ggX3_searchWorst_X0_localSkew : GoodIn wsX3_searchWorst wsX0_localSkew := goodIn_r _ [81, 82, 83, 84, 9, 85, 37, 32, 42, 43, 44, 45, 86, 87, 88, 55, 89, 90, 91, 58, 59, 60, 92, 93, 94, 95, 96, 97, 98, 48, 49, 50, 51, 25, 114, 115, 116, 117, 118, 119, 120, 121, 122, 123, 124, 109, 110, 111, 112, 113] (by decide +kernel) (by decide +kernel)
set_option maxRecDepth 20000 in
theorem gX3_searchWorst_X0_localSkew : GoodIn wsX3_searchWorst (wsV RX3 130 RX0 yX0_localSkew wsX0_localSkew) := goodIn_app (goodIn_of _ (by decide +kernel)) ggX3_searchWorst_X0_localSkew
theorem dX3_searchWorst_0 : decode cX3_searchWorst 0 = .ok (.iconst (-1), 1) := by decide +kernel
theorem dX3_searchWorst_1 : decode cX3_searchWorst 1 = .ok (.istore_n 2, 1) := by decide +kernel
theorem dX3_searchWorst_2 : decode cX3_searchWorst 2 = .ok (.iconst 0, 1) := by decide +kernel
theorem dX3_searchWorst_3 : decode cX3_searchWorst 3 = .ok (.istore_n 3, 1) := by decide +kernel
theorem dX3_searchWorst_4 : decode cX3_searchWorst 4 = .ok (.aload_n 0, 1) := by decide +kernel
theorem dX3_searchWorst_5 : decode cX3_searchWorst 5 = .ok (.getfield 35, 3) := by decide +kernel
theorem dX3_searchWorst_8 : decode cX3_searchWorst 8 = .ok (.aload_n 0, 1) := by decide +kernel
theorem dX3_searchWorst_9 : decode cX3_searchWorst 9 = .ok (.getfield 28, 3) := by decide +kernel
theorem dX3_searchWorst_12 : decode cX3_searchWorst 12 = .ok (.invokevirtual 186, 3) := by decide +kernel
theorem dX3_searchWorst_15 : decode cX3_searchWorst 15 = .ok (.iconst 0, 1) := by decide +kernel
theorem dX3_searchWorst_16 : decode cX3_searchWorst 16 = .ok (.istore 4, 2) := by decide +kernel
theorem dX3_searchWorst_18 : decode cX3_searchWorst 18 = .ok (.iload 4, 2) := by decide +kernel
theorem dX3_searchWorst_20 : decode cX3_searchWorst 20 = .ok (.iconst 1, 1) := by decide +kernel
theorem dX3_searchWorst_21 : decode cX3_searchWorst 21 = .ok (.aload_n 0, 1) := by decide +kernel
theorem dX3_searchWorst_22 : decode cX3_searchWorst 22 = .ok (.getfield 19, 3) := by decide +kernel
theorem dX3_searchWorst_25 : decode cX3_searchWorst 25 = .ok (.getfield 83, 3) := by decide +kernel
theorem dX3_searchWorst_28 : decode cX3_searchWorst 28 = .ok (.ishl, 1) := by decide +kernel
theorem dX3_searchWorst_29 : decode cX3_searchWorst 29 = .ok (.if_icmp .ge 80, 3) := by decide +kernel
theorem dX3_searchWorst_32 : decode cX3_searchWorst 32 = .ok (.aload_n 0, 1) := by decide +kernel
theorem dX3_searchWorst_33 : decode cX3_searchWorst 33 = .ok (.getfield 35, 3) := by decide +kernel
theorem dX3_searchWorst_36 : decode cX3_searchWorst 36 = .ok (.aload_n 0, 1) := by decide +kernel
theorem dX3_searchWorst_37 : decode cX3_searchWorst 37 = .ok (.getfield 28, 3) := by decide +kernel
theorem dX3_searchWorst_40 : decode cX3_searchWorst 40 = .ok (.invokevirtual 240, 3) := by decide +kernel
theorem dX3_searchWorst_43 : decode cX3_searchWorst 43 = .ok (.aload_n 0, 1) := by decide +kernel
theorem dX3_searchWorst_44 : decode cX3_searchWorst 44 = .ok (.getfield 35, 3) := by decide +kernel
theorem dX3_searchWorst_47 : decode cX3_searchWorst 47 = .ok (.iload 4, 2) := by decide +kernel
theorem dX3_searchWorst_49 : decode cX3_searchWorst 49 = .ok (.invokevirtual 243, 3) := by decide +kernel
theorem dX3_searchWorst_52 : decode cX3_searchWorst 52 = .ok (.iconst 0, 1) := by decide +kernel
theorem dX3_searchWorst_53 : decode cX3_searchWorst 53 = .ok (.istore 5, 2) := by decide +kernel
theorem dX3_searchWorst_55 : decode cX3_searchWorst 55 = .ok (.iload 5, 2) := by decide +kernel
theorem dX3_searchWorst_57 : decode cX3_searchWorst 57 = .ok (.iload_n 1, 1) := by decide +kernel
theorem dX3_searchWorst_58 : decode cX3_searchWorst 58 = .ok (.if_icmp .ge 24, 3) := by decide +kernel
theorem dX3_searchWorst_61 : decode cX3_searchWorst 61 = .ok (.aload_n 0, 1) := by decide +kernel
theorem dX3_searchWorst_62 : decode cX3_searchWorst 62 = .ok (.getfield 35, 3) := by decide +kernel
theorem dX3_searchWorst_65 : decode cX3_searchWorst 65 = .ok (.aload_n 0, 1) := by decide +kernel
theorem dX3_searchWorst_66 : decode cX3_searchWorst 66 = .ok (.getfield 42, 3) := by decide +kernel
theorem dX3_searchWorst_69 : decode cX3_searchWorst 69 = .ok (.aload_n 0, 1) := by decide +kernel
theorem dX3_searchWorst_70 : decode cX3_searchWorst 70 = .ok (.getfield 46, 3) := by decide +kernel
theorem dX3_searchWorst_73 : decode cX3_searchWorst 73 = .ok (.invokevirtual 247, 3) := by decide +kernel
theorem dX3_searchWorst_76 : decode cX3_searchWorst 76 = .ok (.iinc 5 1, 3) := by decide +kernel
theorem dX3_searchWorst_79 : decode cX3_searchWorst 79 = .ok (.goto (-24), 3) := by decide +kernel
theorem dX3_searchWorst_82 : decode cX3_searchWorst 82 = .ok (.aload_n 0, 1) := by decide +kernel
theorem dX3_searchWorst_83 : decode cX3_searchWorst 83 = .ok (.getfield 35, 3) := by decide +kernel
theorem dX3_searchWorst_86 : decode cX3_searchWorst 86 = .ok (.invokevirtual 130, 3) := by decide +kernel
theorem dX3_searchWorst_89 : decode cX3_searchWorst 89 = .ok (.istore 5, 2) := by decide +kernel
theorem dX3_searchWorst_91 : decode cX3_searchWorst 91 = .ok (.iload 5, 2) := by decide +kernel
theorem dX3_searchWorst_93 : decode cX3_searchWorst 93 = .ok (.iload_n 2, 1) := by decide +kernel
theorem dX3_searchWorst_94 : decode cX3_searchWorst 94 = .ok (.if_icmp .le 9, 3) := by decide +kernel
theorem dX3_searchWorst_97 : decode cX3_searchWorst 97 = .ok (.iload 5, 2) := by decide +kernel
theorem dX3_searchWorst_99 : decode cX3_searchWorst 99 = .ok (.istore_n 2, 1) := by decide +kernel
theorem dX3_searchWorst_100 : decode cX3_searchWorst 100 = .ok (.iload 4, 2) := by decide +kernel
theorem dX3_searchWorst_102 : decode cX3_searchWorst 102 = .ok (.istore_n 3, 1) := by decide +kernel
theorem dX3_searchWorst_103 : decode cX3_searchWorst 103 = .ok (.iinc 4 1, 3) := by decide +kernel
theorem dX3_searchWorst_106 : decode cX3_searchWorst 106 = .ok (.goto (-88), 3) := by decide +kernel
theorem dX3_searchWorst_109 : decode cX3_searchWorst 109 = .ok (.iload_n 2, 1) := by decide +kernel
theorem dX3_searchWorst_110 : decode cX3_searchWorst 110 = .ok (.i2l, 1) := by decide +kernel
theorem dX3_searchWorst_111 : decode cX3_searchWorst 111 = .ok (.bipush 6, 2) := by decide +kernel
theorem dX3_searchWorst_113 : decode cX3_searchWorst 113 = .ok (.lshl, 1) := by decide +kernel
theorem dX3_searchWorst_114 : decode cX3_searchWorst 114 = .ok (.iload_n 3, 1) := by decide +kernel
theorem dX3_searchWorst_115 : decode cX3_searchWorst 115 = .ok (.i2l, 1) := by decide +kernel
theorem dX3_searchWorst_116 : decode cX3_searchWorst 116 = .ok (.lor, 1) := by decide +kernel
theorem dX3_searchWorst_117 : decode cX3_searchWorst 117 = .ok (.lreturn, 1) := by decide +kernel
theorem dX3_skewOfWorst_0 : decode cX3_skewOfWorst 0 = .ok (.lload_n 0, 1) := by decide +kernel
theorem dX3_skewOfWorst_1 : decode cX3_skewOfWorst 1 = .ok (.bipush 6, 2) := by decide +kernel
theorem dX3_skewOfWorst_3 : decode cX3_skewOfWorst 3 = .ok (.lshr, 1) := by decide +kernel
theorem dX3_skewOfWorst_4 : decode cX3_skewOfWorst 4 = .ok (.l2i, 1) := by decide +kernel
theorem dX3_skewOfWorst_5 : decode cX3_skewOfWorst 5 = .ok (.ireturn, 1) := by decide +kernel
theorem dX3_nodesOfWorst_0 : decode cX3_nodesOfWorst 0 = .ok (.lload_n 0, 1) := by decide +kernel
theorem dX3_nodesOfWorst_1 : decode cX3_nodesOfWorst 1 = .ok (.ldc2_w 250, 3) := by decide +kernel
theorem dX3_nodesOfWorst_4 : decode cX3_nodesOfWorst 4 = .ok (.land, 1) := by decide +kernel
theorem dX3_nodesOfWorst_5 : decode cX3_nodesOfWorst 5 = .ok (.l2i, 1) := by decide +kernel
theorem dX3_nodesOfWorst_6 : decode cX3_nodesOfWorst 6 = .ok (.ireturn, 1) := by decide +kernel
theorem dX3_cell_0 : decode cX3_cell 0 = .ok (.iload_n 0, 1) := by decide +kernel
theorem dX3_cell_1 : decode cX3_cell 1 = .ok (.bipush 6, 2) := by decide +kernel
theorem dX3_cell_3 : decode cX3_cell 3 = .ok (.imul, 1) := by decide +kernel
theorem dX3_cell_4 : decode cX3_cell 4 = .ok (.iload_n 1, 1) := by decide +kernel
theorem dX3_cell_5 : decode cX3_cell 5 = .ok (.iadd, 1) := by decide +kernel
theorem dX3_cell_6 : decode cX3_cell 6 = .ok (.ireturn, 1) := by decide +kernel
set_option maxRecDepth 20000 in
theorem ggX3_levelReaching_X3_dividedUp : GoodIn wsX3_levelReaching wsX3_dividedUp := goodIn_r _ [4] (by decide +kernel) (by decide +kernel)
set_option maxRecDepth 20000 in
theorem gX3_levelReaching_X3_dividedUp : GoodIn wsX3_levelReaching (va_wsS RX3 252 yX3_dividedUp wsX3_dividedUp) := goodIn_app (goodIn_of _ (by decide +kernel)) ggX3_levelReaching_X3_dividedUp
theorem dX3_levelReaching_0 : decode cX3_levelReaching 0 = .ok (.iload_n 0, 1) := by decide +kernel
theorem dX3_levelReaching_1 : decode cX3_levelReaching 1 = .ok (.iload_n 1, 1) := by decide +kernel
theorem dX3_levelReaching_2 : decode cX3_levelReaching 2 = .ok (.if_icmp .gt 7, 3) := by decide +kernel
theorem dX3_levelReaching_5 : decode cX3_levelReaching 5 = .ok (.iconst 0, 1) := by decide +kernel
theorem dX3_levelReaching_6 : decode cX3_levelReaching 6 = .ok (.goto 12, 3) := by decide +kernel
theorem dX3_levelReaching_9 : decode cX3_levelReaching 9 = .ok (.iload_n 0, 1) := by decide +kernel
theorem dX3_levelReaching_10 : decode cX3_levelReaching 10 = .ok (.iload_n 1, 1) := by decide +kernel
theorem dX3_levelReaching_11 : decode cX3_levelReaching 11 = .ok (.isub, 1) := by decide +kernel
theorem dX3_levelReaching_12 : decode cX3_levelReaching 12 = .ok (.iconst 2, 1) := by decide +kernel
theorem dX3_levelReaching_13 : decode cX3_levelReaching 13 = .ok (.iload_n 1, 1) := by decide +kernel
theorem dX3_levelReaching_14 : decode cX3_levelReaching 14 = .ok (.imul, 1) := by decide +kernel
theorem dX3_levelReaching_15 : decode cX3_levelReaching 15 = .ok (.invokestatic 252, 3) := by decide +kernel
theorem dX3_levelReaching_18 : decode cX3_levelReaching 18 = .ok (.ireturn, 1) := by decide +kernel
theorem dX3_dividedUp_0 : decode cX3_dividedUp 0 = .ok (.iload_n 1, 1) := by decide +kernel
theorem dX3_dividedUp_1 : decode cX3_dividedUp 1 = .ok (.iconst 1, 1) := by decide +kernel
theorem dX3_dividedUp_2 : decode cX3_dividedUp 2 = .ok (.if_icmp .ge 7, 3) := by decide +kernel
theorem dX3_dividedUp_5 : decode cX3_dividedUp 5 = .ok (.iconst 0, 1) := by decide +kernel
theorem dX3_dividedUp_6 : decode cX3_dividedUp 6 = .ok (.goto 10, 3) := by decide +kernel
theorem dX3_dividedUp_9 : decode cX3_dividedUp 9 = .ok (.iload_n 0, 1) := by decide +kernel
theorem dX3_dividedUp_10 : decode cX3_dividedUp 10 = .ok (.iload_n 1, 1) := by decide +kernel
theorem dX3_dividedUp_11 : decode cX3_dividedUp 11 = .ok (.iadd, 1) := by decide +kernel
theorem dX3_dividedUp_12 : decode cX3_dividedUp 12 = .ok (.iconst 1, 1) := by decide +kernel
theorem dX3_dividedUp_13 : decode cX3_dividedUp 13 = .ok (.isub, 1) := by decide +kernel
theorem dX3_dividedUp_14 : decode cX3_dividedUp 14 = .ok (.iload_n 1, 1) := by decide +kernel
theorem dX3_dividedUp_15 : decode cX3_dividedUp 15 = .ok (.idiv, 1) := by decide +kernel
theorem dX3_dividedUp_16 : decode cX3_dividedUp 16 = .ok (.ireturn, 1) := by decide +kernel
theorem dX4_init_0 : decode cX4_init 0 = .ok (.aload_n 0, 1) := by decide +kernel
theorem dX4_init_1 : decode cX4_init 1 = .ok (.invokespecial 1, 3) := by decide +kernel
theorem dX4_init_4 : decode cX4_init 4 = .ok (.aload_n 0, 1) := by decide +kernel
theorem dX4_init_5 : decode cX4_init 5 = .ok (.bipush 61, 2) := by decide +kernel
theorem dX4_init_7 : decode cX4_init 7 = .ok (.newarray .int, 2) := by decide +kernel
theorem dX4_init_9 : decode cX4_init 9 = .ok (.putfield 7, 3) := by decide +kernel
theorem dX4_init_12 : decode cX4_init 12 = .ok (.aload_n 0, 1) := by decide +kernel
theorem dX4_init_13 : decode cX4_init 13 = .ok (.bipush 36, 2) := by decide +kernel
theorem dX4_init_15 : decode cX4_init 15 = .ok (.newarray .int, 2) := by decide +kernel
theorem dX4_init_17 : decode cX4_init 17 = .ok (.putfield 13, 3) := by decide +kernel
theorem dX4_init_20 : decode cX4_init 20 = .ok (.aload_n 0, 1) := by decide +kernel
theorem dX4_init_21 : decode cX4_init 21 = .ok (.bipush 36, 2) := by decide +kernel
theorem dX4_init_23 : decode cX4_init 23 = .ok (.newarray .int, 2) := by decide +kernel
theorem dX4_init_25 : decode cX4_init 25 = .ok (.putfield 16, 3) := by decide +kernel
theorem dX4_init_28 : decode cX4_init 28 = .ok (.aload_n 0, 1) := by decide +kernel
theorem dX4_init_29 : decode cX4_init 29 = .ok (.bipush 6, 2) := by decide +kernel
theorem dX4_init_31 : decode cX4_init 31 = .ok (.newarray .int, 2) := by decide +kernel
theorem dX4_init_33 : decode cX4_init 33 = .ok (.putfield 19, 3) := by decide +kernel
theorem dX4_init_36 : decode cX4_init 36 = .ok (.aload_n 0, 1) := by decide +kernel
theorem dX4_init_37 : decode cX4_init 37 = .ok (.bipush 24, 2) := by decide +kernel
theorem dX4_init_39 : decode cX4_init 39 = .ok (.newarray .int, 2) := by decide +kernel
theorem dX4_init_41 : decode cX4_init 41 = .ok (.putfield 22, 3) := by decide +kernel
theorem dX4_init_44 : decode cX4_init 44 = .ok (.aload_n 0, 1) := by decide +kernel
theorem dX4_init_45 : decode cX4_init 45 = .ok (.bipush 6, 2) := by decide +kernel
theorem dX4_init_47 : decode cX4_init 47 = .ok (.newarray .boolean, 2) := by decide +kernel
theorem dX4_init_49 : decode cX4_init 49 = .ok (.putfield 25, 3) := by decide +kernel
theorem dX4_init_52 : decode cX4_init 52 = .ok (.aload_n 0, 1) := by decide +kernel
theorem dX4_init_53 : decode cX4_init 53 = .ok (.bipush 6, 2) := by decide +kernel
theorem dX4_init_55 : decode cX4_init 55 = .ok (.newarray .int, 2) := by decide +kernel
theorem dX4_init_57 : decode cX4_init 57 = .ok (.putfield 29, 3) := by decide +kernel
theorem dX4_init_60 : decode cX4_init 60 = .ok (.aload_n 0, 1) := by decide +kernel
theorem dX4_init_61 : decode cX4_init 61 = .ok (.bipush 20, 2) := by decide +kernel
theorem dX4_init_63 : decode cX4_init 63 = .ok (.putfield 32, 3) := by decide +kernel
theorem dX4_init_66 : decode cX4_init 66 = .ok (.aload_n 0, 1) := by decide +kernel
theorem dX4_init_67 : decode cX4_init 67 = .ok (.bipush 10, 2) := by decide +kernel
theorem dX4_init_69 : decode cX4_init 69 = .ok (.putfield 36, 3) := by decide +kernel
theorem dX4_init_72 : decode cX4_init 72 = .ok (.aload_n 0, 1) := by decide +kernel
theorem dX4_init_73 : decode cX4_init 73 = .ok (.bipush 36, 2) := by decide +kernel
theorem dX4_init_75 : decode cX4_init 75 = .ok (.newarray .int, 2) := by decide +kernel
theorem dX4_init_77 : decode cX4_init 77 = .ok (.putfield 39, 3) := by decide +kernel
theorem dX4_init_80 : decode cX4_init 80 = .ok (.aload_n 0, 1) := by decide +kernel
theorem dX4_init_81 : decode cX4_init 81 = .ok (.bipush 6, 2) := by decide +kernel
theorem dX4_init_83 : decode cX4_init 83 = .ok (.newarray .int, 2) := by decide +kernel
theorem dX4_init_85 : decode cX4_init 85 = .ok (.putfield 42, 3) := by decide +kernel
theorem dX4_init_88 : decode cX4_init 88 = .ok (.aload_n 0, 1) := by decide +kernel
theorem dX4_init_89 : decode cX4_init 89 = .ok (.bipush 24, 2) := by decide +kernel
theorem dX4_init_91 : decode cX4_init 91 = .ok (.newarray .int, 2) := by decide +kernel
theorem dX4_init_93 : decode cX4_init 93 = .ok (.putfield 45, 3) := by decide +kernel
theorem dX4_init_96 : decode cX4_init 96 = .ok (.aload_n 0, 1) := by decide +kernel
theorem dX4_init_97 : decode cX4_init 97 = .ok (.bipush 6, 2) := by decide +kernel
theorem dX4_init_99 : decode cX4_init 99 = .ok (.newarray .int, 2) := by decide +kernel
theorem dX4_init_101 : decode cX4_init 101 = .ok (.putfield 48, 3) := by decide +kernel
theorem dX4_init_104 : decode cX4_init 104 = .ok (.aload_n 0, 1) := by decide +kernel
theorem dX4_init_105 : decode cX4_init 105 = .ok (.bipush 6, 2) := by decide +kernel
theorem dX4_init_107 : decode cX4_init 107 = .ok (.newarray .boolean, 2) := by decide +kernel
theorem dX4_init_109 : decode cX4_init 109 = .ok (.putfield 51, 3) := by decide +kernel
theorem dX4_init_112 : decode cX4_init 112 = .ok (.aload_n 0, 1) := by decide +kernel
theorem dX4_init_113 : decode cX4_init 113 = .ok (.bipush 6, 2) := by decide +kernel
theorem dX4_init_115 : decode cX4_init 115 = .ok (.newarray .int, 2) := by decide +kernel
theorem dX4_init_117 : decode cX4_init 117 = .ok (.putfield 54, 3) := by decide +kernel
theorem dX4_init_120 : decode cX4_init 120 = .ok (.aload_n 0, 1) := by decide +kernel
theorem dX4_init_121 : decode cX4_init 121 = .ok (.bipush 24, 2) := by decide +kernel
theorem dX4_init_123 : decode cX4_init 123 = .ok (.newarray .int, 2) := by decide +kernel
theorem dX4_init_125 : decode cX4_init 125 = .ok (.putfield 57, 3) := by decide +kernel
theorem dX4_init_128 : decode cX4_init 128 = .ok (.aload_n 0, 1) := by decide +kernel
theorem dX4_init_129 : decode cX4_init 129 = .ok (.bipush 6, 2) := by decide +kernel
theorem dX4_init_131 : decode cX4_init 131 = .ok (.newarray .int, 2) := by decide +kernel
theorem dX4_init_133 : decode cX4_init 133 = .ok (.putfield 60, 3) := by decide +kernel
theorem dX4_init_136 : decode cX4_init 136 = .ok (.aload_n 0, 1) := by decide +kernel
theorem dX4_init_137 : decode cX4_init 137 = .ok (.bipush 36, 2) := by decide +kernel
theorem dX4_init_139 : decode cX4_init 139 = .ok (.newarray .int, 2) := by decide +kernel
theorem dX4_init_141 : decode cX4_init 141 = .ok (.putfield 63, 3) := by decide +kernel
theorem dX4_init_144 : decode cX4_init 144 = .ok (.aload_n 0, 1) := by decide +kernel
theorem dX4_init_145 : decode cX4_init 145 = .ok (.bipush 36, 2) := by decide +kernel
theorem dX4_init_147 : decode cX4_init 147 = .ok (.newarray .int, 2) := by decide +kernel
theorem dX4_init_149 : decode cX4_init 149 = .ok (.putfield 66, 3) := by decide +kernel
theorem dX4_init_152 : decode cX4_init 152 = .ok (.aload_n 0, 1) := by decide +kernel
theorem dX4_init_153 : decode cX4_init 153 = .ok (.bipush 6, 2) := by decide +kernel
theorem dX4_init_155 : decode cX4_init 155 = .ok (.newarray .boolean, 2) := by decide +kernel
theorem dX4_init_157 : decode cX4_init 157 = .ok (.putfield 69, 3) := by decide +kernel
theorem dX4_init_160 : decode cX4_init 160 = .ok (.aload_n 0, 1) := by decide +kernel
theorem dX4_init_161 : decode cX4_init 161 = .ok (.bipush 6, 2) := by decide +kernel
theorem dX4_init_163 : decode cX4_init 163 = .ok (.newarray .int, 2) := by decide +kernel
theorem dX4_init_165 : decode cX4_init 165 = .ok (.putfield 72, 3) := by decide +kernel
theorem dX4_init_168 : decode cX4_init 168 = .ok (.return_, 1) := by decide +kernel
theorem dX4_within_0 : decode cX4_within 0 = .ok (.iload_n 0, 1) := by decide +kernel
theorem dX4_within_1 : decode cX4_within 1 = .ok (.iload_n 1, 1) := by decide +kernel
theorem dX4_within_2 : decode cX4_within 2 = .ok (.if_icmp .lt 12, 3) := by decide +kernel
theorem dX4_within_5 : decode cX4_within 5 = .ok (.iload_n 0, 1) := by decide +kernel
theorem dX4_within_6 : decode cX4_within 6 = .ok (.iload_n 2, 1) := by decide +kernel
theorem dX4_within_7 : decode cX4_within 7 = .ok (.if_icmp .gt 7, 3) := by decide +kernel
theorem dX4_within_10 : decode cX4_within 10 = .ok (.iconst 1, 1) := by decide +kernel
theorem dX4_within_11 : decode cX4_within 11 = .ok (.goto 4, 3) := by decide +kernel
theorem dX4_within_14 : decode cX4_within 14 = .ok (.iconst 0, 1) := by decide +kernel
theorem dX4_within_15 : decode cX4_within 15 = .ok (.ireturn, 1) := by decide +kernel
set_option maxRecDepth 20000 in
theorem ggX4_letter_X4_within : GoodIn wsX4_letter wsX4_within := goodIn_r _ [8] (by decide +kernel) (by decide +kernel)
set_option maxRecDepth 20000 in
theorem gX4_letter_X4_within : GoodIn wsX4_letter (va_wsS RX4 75 yX4_within wsX4_within) := goodIn_app (goodIn_of _ (by decide +kernel)) ggX4_letter_X4_within
theorem dX4_letter_0 : decode cX4_letter 0 = .ok (.iload_n 1, 1) := by decide +kernel
theorem dX4_letter_1 : decode cX4_letter 1 = .ok (.bipush 32, 2) := by decide +kernel
theorem dX4_letter_3 : decode cX4_letter 3 = .ok (.bipush 126, 2) := by decide +kernel
theorem dX4_letter_5 : decode cX4_letter 5 = .ok (.invokestatic 75, 3) := by decide +kernel
theorem dX4_letter_8 : decode cX4_letter 8 = .ok (.ifCond .ne 6, 3) := by decide +kernel
theorem dX4_letter_11 : decode cX4_letter 11 = .ok (.ldc 79, 2) := by decide +kernel
theorem dX4_letter_13 : decode cX4_letter 13 = .ok (.ireturn, 1) := by decide +kernel
theorem dX4_letter_14 : decode cX4_letter 14 = .ok (.aload_n 0, 1) := by decide +kernel
theorem dX4_letter_15 : decode cX4_letter 15 = .ok (.getfield 80, 3) := by decide +kernel
theorem dX4_letter_18 : decode cX4_letter 18 = .ok (.bipush 61, 2) := by decide +kernel
theorem dX4_letter_20 : decode cX4_letter 20 = .ok (.if_icmp .ne 6, 3) := by decide +kernel
theorem dX4_letter_23 : decode cX4_letter 23 = .ok (.ldc 83, 2) := by decide +kernel
theorem dX4_letter_25 : decode cX4_letter 25 = .ok (.ireturn, 1) := by decide +kernel
theorem dX4_letter_26 : decode cX4_letter 26 = .ok (.aload_n 0, 1) := by decide +kernel
theorem dX4_letter_27 : decode cX4_letter 27 = .ok (.getfield 7, 3) := by decide +kernel
theorem dX4_letter_30 : decode cX4_letter 30 = .ok (.aload_n 0, 1) := by decide +kernel
theorem dX4_letter_31 : decode cX4_letter 31 = .ok (.getfield 80, 3) := by decide +kernel
theorem dX4_letter_34 : decode cX4_letter 34 = .ok (.iload_n 1, 1) := by decide +kernel
theorem dX4_letter_35 : decode cX4_letter 35 = .ok (.iastore, 1) := by decide +kernel
theorem dX4_letter_36 : decode cX4_letter 36 = .ok (.aload_n 0, 1) := by decide +kernel
theorem dX4_letter_37 : decode cX4_letter 37 = .ok (.dup, 1) := by decide +kernel
theorem dX4_letter_38 : decode cX4_letter 38 = .ok (.getfield 80, 3) := by decide +kernel
theorem dX4_letter_41 : decode cX4_letter 41 = .ok (.iconst 1, 1) := by decide +kernel
theorem dX4_letter_42 : decode cX4_letter 42 = .ok (.iadd, 1) := by decide +kernel
theorem dX4_letter_43 : decode cX4_letter 43 = .ok (.putfield 80, 3) := by decide +kernel
theorem dX4_letter_46 : decode cX4_letter 46 = .ok (.aload_n 0, 1) := by decide +kernel
theorem dX4_letter_47 : decode cX4_letter 47 = .ok (.getfield 80, 3) := by decide +kernel
theorem dX4_letter_50 : decode cX4_letter 50 = .ok (.ireturn, 1) := by decide +kernel
theorem dX4_blank_0 : decode cX4_blank 0 = .ok (.aload_n 0, 1) := by decide +kernel
theorem dX4_blank_1 : decode cX4_blank 1 = .ok (.getfield 80, 3) := by decide +kernel
theorem dX4_blank_4 : decode cX4_blank 4 = .ok (.istore_n 1, 1) := by decide +kernel
theorem dX4_blank_5 : decode cX4_blank 5 = .ok (.aload_n 0, 1) := by decide +kernel
theorem dX4_blank_6 : decode cX4_blank 6 = .ok (.iconst 0, 1) := by decide +kernel
theorem dX4_blank_7 : decode cX4_blank 7 = .ok (.putfield 80, 3) := by decide +kernel
theorem dX4_blank_10 : decode cX4_blank 10 = .ok (.iload_n 1, 1) := by decide +kernel
theorem dX4_blank_11 : decode cX4_blank 11 = .ok (.ireturn, 1) := by decide +kernel
set_option maxRecDepth 20000 in
theorem ggX4_takesDigit_X4_within : GoodIn wsX4_takesDigit wsX4_within := goodIn_r _ [11] (by decide +kernel) (by decide +kernel)
set_option maxRecDepth 20000 in
theorem gX4_takesDigit_X4_within : GoodIn wsX4_takesDigit (va_wsS RX4 75 yX4_within wsX4_within) := goodIn_app (goodIn_of _ (by decide +kernel)) ggX4_takesDigit_X4_within
theorem dX4_takesDigit_0 : decode cX4_takesDigit 0 = .ok (.aload_n 0, 1) := by decide +kernel
theorem dX4_takesDigit_1 : decode cX4_takesDigit 1 = .ok (.getfield 84, 3) := by decide +kernel
theorem dX4_takesDigit_4 : decode cX4_takesDigit 4 = .ok (.iconst 1, 1) := by decide +kernel
theorem dX4_takesDigit_5 : decode cX4_takesDigit 5 = .ok (.if_icmp .ne 25, 3) := by decide +kernel
theorem dX4_takesDigit_8 : decode cX4_takesDigit 8 = .ok (.aload_n 0, 1) := by decide +kernel
theorem dX4_takesDigit_9 : decode cX4_takesDigit 9 = .ok (.iload_n 1, 1) := by decide +kernel
theorem dX4_takesDigit_10 : decode cX4_takesDigit 10 = .ok (.putfield 87, 3) := by decide +kernel
theorem dX4_takesDigit_13 : decode cX4_takesDigit 13 = .ok (.aload_n 0, 1) := by decide +kernel
theorem dX4_takesDigit_14 : decode cX4_takesDigit 14 = .ok (.iconst 2, 1) := by decide +kernel
theorem dX4_takesDigit_15 : decode cX4_takesDigit 15 = .ok (.putfield 84, 3) := by decide +kernel
theorem dX4_takesDigit_18 : decode cX4_takesDigit 18 = .ok (.iload_n 1, 1) := by decide +kernel
theorem dX4_takesDigit_19 : decode cX4_takesDigit 19 = .ok (.iconst 0, 1) := by decide +kernel
theorem dX4_takesDigit_20 : decode cX4_takesDigit 20 = .ok (.aload_n 0, 1) := by decide +kernel
theorem dX4_takesDigit_21 : decode cX4_takesDigit 21 = .ok (.getfield 90, 3) := by decide +kernel
theorem dX4_takesDigit_24 : decode cX4_takesDigit 24 = .ok (.iconst 1, 1) := by decide +kernel
theorem dX4_takesDigit_25 : decode cX4_takesDigit 25 = .ok (.isub, 1) := by decide +kernel
theorem dX4_takesDigit_26 : decode cX4_takesDigit 26 = .ok (.invokestatic 75, 3) := by decide +kernel
theorem dX4_takesDigit_29 : decode cX4_takesDigit 29 = .ok (.ireturn, 1) := by decide +kernel
theorem dX4_takesDigit_30 : decode cX4_takesDigit 30 = .ok (.aload_n 0, 1) := by decide +kernel
theorem dX4_takesDigit_31 : decode cX4_takesDigit 31 = .ok (.getfield 84, 3) := by decide +kernel
theorem dX4_takesDigit_34 : decode cX4_takesDigit 34 = .ok (.iconst 2, 1) := by decide +kernel
theorem dX4_takesDigit_35 : decode cX4_takesDigit 35 = .ok (.if_icmp .ne 60, 3) := by decide +kernel
theorem dX4_takesDigit_38 : decode cX4_takesDigit 38 = .ok (.aload_n 0, 1) := by decide +kernel
theorem dX4_takesDigit_39 : decode cX4_takesDigit 39 = .ok (.iload_n 1, 1) := by decide +kernel
theorem dX4_takesDigit_40 : decode cX4_takesDigit 40 = .ok (.putfield 93, 3) := by decide +kernel
theorem dX4_takesDigit_43 : decode cX4_takesDigit 43 = .ok (.aload_n 0, 1) := by decide +kernel
theorem dX4_takesDigit_44 : decode cX4_takesDigit 44 = .ok (.iconst 3, 1) := by decide +kernel
theorem dX4_takesDigit_45 : decode cX4_takesDigit 45 = .ok (.putfield 84, 3) := by decide +kernel
theorem dX4_takesDigit_48 : decode cX4_takesDigit 48 = .ok (.iload_n 1, 1) := by decide +kernel
theorem dX4_takesDigit_49 : decode cX4_takesDigit 49 = .ok (.iconst 0, 1) := by decide +kernel
theorem dX4_takesDigit_50 : decode cX4_takesDigit 50 = .ok (.aload_n 0, 1) := by decide +kernel
theorem dX4_takesDigit_51 : decode cX4_takesDigit 51 = .ok (.getfield 90, 3) := by decide +kernel
theorem dX4_takesDigit_54 : decode cX4_takesDigit 54 = .ok (.iconst 1, 1) := by decide +kernel
theorem dX4_takesDigit_55 : decode cX4_takesDigit 55 = .ok (.isub, 1) := by decide +kernel
theorem dX4_takesDigit_56 : decode cX4_takesDigit 56 = .ok (.invokestatic 75, 3) := by decide +kernel
theorem dX4_takesDigit_59 : decode cX4_takesDigit 59 = .ok (.ifCond .eq 34, 3) := by decide +kernel
theorem dX4_takesDigit_62 : decode cX4_takesDigit 62 = .ok (.iload_n 1, 1) := by decide +kernel
theorem dX4_takesDigit_63 : decode cX4_takesDigit 63 = .ok (.aload_n 0, 1) := by decide +kernel
theorem dX4_takesDigit_64 : decode cX4_takesDigit 64 = .ok (.getfield 87, 3) := by decide +kernel
theorem dX4_takesDigit_67 : decode cX4_takesDigit 67 = .ok (.if_icmp .eq 26, 3) := by decide +kernel
theorem dX4_takesDigit_70 : decode cX4_takesDigit 70 = .ok (.aload_n 0, 1) := by decide +kernel
theorem dX4_takesDigit_71 : decode cX4_takesDigit 71 = .ok (.getfield 39, 3) := by decide +kernel
theorem dX4_takesDigit_74 : decode cX4_takesDigit 74 = .ok (.bipush 6, 2) := by decide +kernel
theorem dX4_takesDigit_76 : decode cX4_takesDigit 76 = .ok (.aload_n 0, 1) := by decide +kernel
theorem dX4_takesDigit_77 : decode cX4_takesDigit 77 = .ok (.getfield 87, 3) := by decide +kernel
theorem dX4_takesDigit_80 : decode cX4_takesDigit 80 = .ok (.imul, 1) := by decide +kernel
theorem dX4_takesDigit_81 : decode cX4_takesDigit 81 = .ok (.iload_n 1, 1) := by decide +kernel
theorem dX4_takesDigit_82 : decode cX4_takesDigit 82 = .ok (.iadd, 1) := by decide +kernel
theorem dX4_takesDigit_83 : decode cX4_takesDigit 83 = .ok (.iaload, 1) := by decide +kernel
theorem dX4_takesDigit_84 : decode cX4_takesDigit 84 = .ok (.ldc 96, 2) := by decide +kernel
theorem dX4_takesDigit_86 : decode cX4_takesDigit 86 = .ok (.if_icmp .ne 7, 3) := by decide +kernel
theorem dX4_takesDigit_89 : decode cX4_takesDigit 89 = .ok (.iconst 1, 1) := by decide +kernel
theorem dX4_takesDigit_90 : decode cX4_takesDigit 90 = .ok (.goto 4, 3) := by decide +kernel
theorem dX4_takesDigit_93 : decode cX4_takesDigit 93 = .ok (.iconst 0, 1) := by decide +kernel
theorem dX4_takesDigit_94 : decode cX4_takesDigit 94 = .ok (.ireturn, 1) := by decide +kernel
theorem dX4_takesDigit_95 : decode cX4_takesDigit 95 = .ok (.iload_n 1, 1) := by decide +kernel
theorem dX4_takesDigit_96 : decode cX4_takesDigit 96 = .ok (.iconst 0, 1) := by decide +kernel
theorem dX4_takesDigit_97 : decode cX4_takesDigit 97 = .ok (.iconst 3, 1) := by decide +kernel
theorem dX4_takesDigit_98 : decode cX4_takesDigit 98 = .ok (.invokestatic 75, 3) := by decide +kernel
theorem dX4_takesDigit_101 : decode cX4_takesDigit 101 = .ok (.istore_n 2, 1) := by decide +kernel
theorem dX4_takesDigit_102 : decode cX4_takesDigit 102 = .ok (.iload_n 2, 1) := by decide +kernel
theorem dX4_takesDigit_103 : decode cX4_takesDigit 103 = .ok (.ifCond .eq 54, 3) := by decide +kernel
theorem dX4_takesDigit_106 : decode cX4_takesDigit 106 = .ok (.aload_n 0, 1) := by decide +kernel
theorem dX4_takesDigit_107 : decode cX4_takesDigit 107 = .ok (.getfield 39, 3) := by decide +kernel
theorem dX4_takesDigit_110 : decode cX4_takesDigit 110 = .ok (.bipush 6, 2) := by decide +kernel
theorem dX4_takesDigit_112 : decode cX4_takesDigit 112 = .ok (.aload_n 0, 1) := by decide +kernel
theorem dX4_takesDigit_113 : decode cX4_takesDigit 113 = .ok (.getfield 87, 3) := by decide +kernel
theorem dX4_takesDigit_116 : decode cX4_takesDigit 116 = .ok (.imul, 1) := by decide +kernel
theorem dX4_takesDigit_117 : decode cX4_takesDigit 117 = .ok (.aload_n 0, 1) := by decide +kernel
theorem dX4_takesDigit_118 : decode cX4_takesDigit 118 = .ok (.getfield 93, 3) := by decide +kernel
theorem dX4_takesDigit_121 : decode cX4_takesDigit 121 = .ok (.iadd, 1) := by decide +kernel
theorem dX4_takesDigit_122 : decode cX4_takesDigit 122 = .ok (.iload_n 1, 1) := by decide +kernel
theorem dX4_takesDigit_123 : decode cX4_takesDigit 123 = .ok (.iastore, 1) := by decide +kernel
theorem dX4_takesDigit_124 : decode cX4_takesDigit 124 = .ok (.aload_n 0, 1) := by decide +kernel
theorem dX4_takesDigit_125 : decode cX4_takesDigit 125 = .ok (.getfield 39, 3) := by decide +kernel
theorem dX4_takesDigit_128 : decode cX4_takesDigit 128 = .ok (.bipush 6, 2) := by decide +kernel
theorem dX4_takesDigit_130 : decode cX4_takesDigit 130 = .ok (.aload_n 0, 1) := by decide +kernel
theorem dX4_takesDigit_131 : decode cX4_takesDigit 131 = .ok (.getfield 93, 3) := by decide +kernel
theorem dX4_takesDigit_134 : decode cX4_takesDigit 134 = .ok (.imul, 1) := by decide +kernel
theorem dX4_takesDigit_135 : decode cX4_takesDigit 135 = .ok (.aload_n 0, 1) := by decide +kernel
theorem dX4_takesDigit_136 : decode cX4_takesDigit 136 = .ok (.getfield 87, 3) := by decide +kernel
theorem dX4_takesDigit_139 : decode cX4_takesDigit 139 = .ok (.iadd, 1) := by decide +kernel
theorem dX4_takesDigit_140 : decode cX4_takesDigit 140 = .ok (.iload_n 1, 1) := by decide +kernel
theorem dX4_takesDigit_141 : decode cX4_takesDigit 141 = .ok (.iastore, 1) := by decide +kernel
theorem dX4_takesDigit_142 : decode cX4_takesDigit 142 = .ok (.aload_n 0, 1) := by decide +kernel
theorem dX4_takesDigit_143 : decode cX4_takesDigit 143 = .ok (.dup, 1) := by decide +kernel
theorem dX4_takesDigit_144 : decode cX4_takesDigit 144 = .ok (.getfield 97, 3) := by decide +kernel
theorem dX4_takesDigit_147 : decode cX4_takesDigit 147 = .ok (.iconst 1, 1) := by decide +kernel
theorem dX4_takesDigit_148 : decode cX4_takesDigit 148 = .ok (.iadd, 1) := by decide +kernel
theorem dX4_takesDigit_149 : decode cX4_takesDigit 149 = .ok (.putfield 97, 3) := by decide +kernel
theorem dX4_takesDigit_152 : decode cX4_takesDigit 152 = .ok (.aload_n 0, 1) := by decide +kernel
theorem dX4_takesDigit_153 : decode cX4_takesDigit 153 = .ok (.iconst 0, 1) := by decide +kernel
theorem dX4_takesDigit_154 : decode cX4_takesDigit 154 = .ok (.putfield 84, 3) := by decide +kernel
theorem dX4_takesDigit_157 : decode cX4_takesDigit 157 = .ok (.iload_n 2, 1) := by decide +kernel
theorem dX4_takesDigit_158 : decode cX4_takesDigit 158 = .ok (.ireturn, 1) := by decide +kernel
set_option maxRecDepth 20000 in
theorem ggX4_takes_X4_within : GoodIn wsX4_takes wsX4_within := goodIn_r _ [6] (by decide +kernel) (by decide +kernel)
set_option maxRecDepth 20000 in
theorem gX4_takes_X4_within : GoodIn wsX4_takes (va_wsS RX4 75 yX4_within wsX4_within) := goodIn_app (goodIn_of _ (by decide +kernel)) ggX4_takes_X4_within
set_option maxRecDepth 20000 in
theorem ggX4_takes_X4_takesDigit : GoodIn wsX4_takes wsX4_takesDigit := goodIn_r _ [10, 2, 11, 1, 12, 13, 14, 15, 3, 4, 5, 6, 16, 17, 18, 19, 20, 21, 22, 23, 24, 25, 26, 27, 28, 29, 30, 31, 32, 33, 34, 35, 36, 37, 38, 39, 40, 41, 42, 43, 44, 45, 46, 47, 48, 49, 50, 51, 52, 53, 54] (by decide +kernel) (by decide +kernel)
set_option maxRecDepth 20000 in
theorem gX4_takes_X4_takesDigit : GoodIn wsX4_takes (wsV RX4 100 RX4 yX4_takesDigit wsX4_takesDigit) := goodIn_app (goodIn_of _ (by decide +kernel)) ggX4_takes_X4_takesDigit
theorem dX4_takes_0 : decode cX4_takes 0 = .ok (.aload_n 0, 1) := by decide +kernel
theorem dX4_takes_1 : decode cX4_takes 1 = .ok (.getfield 90, 3) := by decide +kernel
theorem dX4_takes_4 : decode cX4_takes 4 = .ok (.ifCond .ne 39, 3) := by decide +kernel
theorem dX4_takes_7 : decode cX4_takes 7 = .ok (.aload_n 0, 1) := by decide +kernel
theorem dX4_takes_8 : decode cX4_takes 8 = .ok (.iload_n 1, 1) := by decide +kernel
theorem dX4_takes_9 : decode cX4_takes 9 = .ok (.bipush 50, 2) := by decide +kernel
theorem dX4_takes_11 : decode cX4_takes 11 = .ok (.bipush 54, 2) := by decide +kernel
theorem dX4_takes_13 : decode cX4_takes 13 = .ok (.invokestatic 75, 3) := by decide +kernel
theorem dX4_takes_16 : decode cX4_takes 16 = .ok (.ifCond .eq 10, 3) := by decide +kernel
theorem dX4_takes_19 : decode cX4_takes 19 = .ok (.iload_n 1, 1) := by decide +kernel
theorem dX4_takes_20 : decode cX4_takes 20 = .ok (.bipush 48, 2) := by decide +kernel
theorem dX4_takes_22 : decode cX4_takes 22 = .ok (.isub, 1) := by decide +kernel
theorem dX4_takes_23 : decode cX4_takes 23 = .ok (.goto 4, 3) := by decide +kernel
theorem dX4_takes_26 : decode cX4_takes 26 = .ok (.iconst 0, 1) := by decide +kernel
theorem dX4_takes_27 : decode cX4_takes 27 = .ok (.putfield 90, 3) := by decide +kernel
theorem dX4_takes_30 : decode cX4_takes 30 = .ok (.aload_n 0, 1) := by decide +kernel
theorem dX4_takes_31 : decode cX4_takes 31 = .ok (.getfield 90, 3) := by decide +kernel
theorem dX4_takes_34 : decode cX4_takes 34 = .ok (.ifCond .le 7, 3) := by decide +kernel
theorem dX4_takes_37 : decode cX4_takes 37 = .ok (.iconst 1, 1) := by decide +kernel
theorem dX4_takes_38 : decode cX4_takes 38 = .ok (.goto 4, 3) := by decide +kernel
theorem dX4_takes_41 : decode cX4_takes 41 = .ok (.iconst 0, 1) := by decide +kernel
theorem dX4_takes_42 : decode cX4_takes 42 = .ok (.ireturn, 1) := by decide +kernel
theorem dX4_takes_43 : decode cX4_takes 43 = .ok (.aload_n 0, 1) := by decide +kernel
theorem dX4_takes_44 : decode cX4_takes 44 = .ok (.getfield 84, 3) := by decide +kernel
theorem dX4_takes_47 : decode cX4_takes 47 = .ok (.ifCond .ne 30, 3) := by decide +kernel
theorem dX4_takes_50 : decode cX4_takes 50 = .ok (.aload_n 0, 1) := by decide +kernel
theorem dX4_takes_51 : decode cX4_takes 51 = .ok (.iload_n 1, 1) := by decide +kernel
theorem dX4_takes_52 : decode cX4_takes 52 = .ok (.bipush 44, 2) := by decide +kernel
theorem dX4_takes_54 : decode cX4_takes 54 = .ok (.if_icmp .ne 7, 3) := by decide +kernel
theorem dX4_takes_57 : decode cX4_takes 57 = .ok (.iconst 1, 1) := by decide +kernel
theorem dX4_takes_58 : decode cX4_takes 58 = .ok (.goto 4, 3) := by decide +kernel
theorem dX4_takes_61 : decode cX4_takes 61 = .ok (.iconst 0, 1) := by decide +kernel
theorem dX4_takes_62 : decode cX4_takes 62 = .ok (.putfield 84, 3) := by decide +kernel
theorem dX4_takes_65 : decode cX4_takes 65 = .ok (.iload_n 1, 1) := by decide +kernel
theorem dX4_takes_66 : decode cX4_takes 66 = .ok (.bipush 44, 2) := by decide +kernel
theorem dX4_takes_68 : decode cX4_takes 68 = .ok (.if_icmp .ne 7, 3) := by decide +kernel
theorem dX4_takes_71 : decode cX4_takes 71 = .ok (.iconst 1, 1) := by decide +kernel
theorem dX4_takes_72 : decode cX4_takes 72 = .ok (.goto 4, 3) := by decide +kernel
theorem dX4_takes_75 : decode cX4_takes 75 = .ok (.iconst 0, 1) := by decide +kernel
theorem dX4_takes_76 : decode cX4_takes 76 = .ok (.ireturn, 1) := by decide +kernel
theorem dX4_takes_77 : decode cX4_takes 77 = .ok (.aload_n 0, 1) := by decide +kernel
theorem dX4_takes_78 : decode cX4_takes 78 = .ok (.iload_n 1, 1) := by decide +kernel
theorem dX4_takes_79 : decode cX4_takes 79 = .ok (.bipush 48, 2) := by decide +kernel
theorem dX4_takes_81 : decode cX4_takes 81 = .ok (.isub, 1) := by decide +kernel
theorem dX4_takes_82 : decode cX4_takes 82 = .ok (.invokevirtual 100, 3) := by decide +kernel
theorem dX4_takes_85 : decode cX4_takes 85 = .ok (.ireturn, 1) := by decide +kernel
set_option maxRecDepth 20000 in
theorem ggX4_goAlong_X4_takes : GoodIn wsX4_goAlong wsX4_takes := goodIn_r _ [12, 1, 3, 13, 14, 11, 15, 16, 17, 18, 19, 20, 21, 4, 5, 2, 22, 23, 24, 25, 26, 27, 28, 29, 30, 31, 32, 33, 34, 35, 36, 37, 38, 39, 40, 41, 42, 43, 44, 45, 46, 47, 48, 49, 50, 51, 52, 53, 54, 55, 56, 57, 58, 59, 60] (by decide +kernel) (by decide +kernel)
set_option maxRecDepth 20000 in
theorem gX4_goAlong_X4_takes : GoodIn wsX4_goAlong (wsV RX4 104 RX4 yX4_takes wsX4_takes) := goodIn_app (goodIn_of _ (by decide +kernel)) ggX4_goAlong_X4_takes
theorem dX4_goAlong_0 : decode cX4_goAlong 0 = .ok (.aload_n 0, 1) := by decide +kernel
theorem dX4_goAlong_1 : decode cX4_goAlong 1 = .ok (.iconst 0, 1) := by decide +kernel
theorem dX4_goAlong_2 : decode cX4_goAlong 2 = .ok (.putfield 90, 3) := by decide +kernel
theorem dX4_goAlong_5 : decode cX4_goAlong 5 = .ok (.aload_n 0, 1) := by decide +kernel
theorem dX4_goAlong_6 : decode cX4_goAlong 6 = .ok (.iconst 0, 1) := by decide +kernel
theorem dX4_goAlong_7 : decode cX4_goAlong 7 = .ok (.putfield 97, 3) := by decide +kernel
theorem dX4_goAlong_10 : decode cX4_goAlong 10 = .ok (.aload_n 0, 1) := by decide +kernel
theorem dX4_goAlong_11 : decode cX4_goAlong 11 = .ok (.iconst 0, 1) := by decide +kernel
theorem dX4_goAlong_12 : decode cX4_goAlong 12 = .ok (.putfield 84, 3) := by decide +kernel
theorem dX4_goAlong_15 : decode cX4_goAlong 15 = .ok (.iconst 0, 1) := by decide +kernel
theorem dX4_goAlong_16 : decode cX4_goAlong 16 = .ok (.istore_n 1, 1) := by decide +kernel
theorem dX4_goAlong_17 : decode cX4_goAlong 17 = .ok (.iload_n 1, 1) := by decide +kernel
theorem dX4_goAlong_18 : decode cX4_goAlong 18 = .ok (.bipush 36, 2) := by decide +kernel
theorem dX4_goAlong_20 : decode cX4_goAlong 20 = .ok (.if_icmp .ge 17, 3) := by decide +kernel
theorem dX4_goAlong_23 : decode cX4_goAlong 23 = .ok (.aload_n 0, 1) := by decide +kernel
theorem dX4_goAlong_24 : decode cX4_goAlong 24 = .ok (.getfield 39, 3) := by decide +kernel
theorem dX4_goAlong_27 : decode cX4_goAlong 27 = .ok (.iload_n 1, 1) := by decide +kernel
theorem dX4_goAlong_28 : decode cX4_goAlong 28 = .ok (.ldc 96, 2) := by decide +kernel
theorem dX4_goAlong_30 : decode cX4_goAlong 30 = .ok (.iastore, 1) := by decide +kernel
theorem dX4_goAlong_31 : decode cX4_goAlong 31 = .ok (.iinc 1 1, 3) := by decide +kernel
theorem dX4_goAlong_34 : decode cX4_goAlong 34 = .ok (.goto (-17), 3) := by decide +kernel
theorem dX4_goAlong_37 : decode cX4_goAlong 37 = .ok (.iconst 0, 1) := by decide +kernel
theorem dX4_goAlong_38 : decode cX4_goAlong 38 = .ok (.istore_n 1, 1) := by decide +kernel
theorem dX4_goAlong_39 : decode cX4_goAlong 39 = .ok (.iload_n 1, 1) := by decide +kernel
theorem dX4_goAlong_40 : decode cX4_goAlong 40 = .ok (.aload_n 0, 1) := by decide +kernel
theorem dX4_goAlong_41 : decode cX4_goAlong 41 = .ok (.getfield 80, 3) := by decide +kernel
theorem dX4_goAlong_44 : decode cX4_goAlong 44 = .ok (.if_icmp .ge 22, 3) := by decide +kernel
theorem dX4_goAlong_47 : decode cX4_goAlong 47 = .ok (.aload_n 0, 1) := by decide +kernel
theorem dX4_goAlong_48 : decode cX4_goAlong 48 = .ok (.aload_n 0, 1) := by decide +kernel
theorem dX4_goAlong_49 : decode cX4_goAlong 49 = .ok (.getfield 7, 3) := by decide +kernel
theorem dX4_goAlong_52 : decode cX4_goAlong 52 = .ok (.iload_n 1, 1) := by decide +kernel
theorem dX4_goAlong_53 : decode cX4_goAlong 53 = .ok (.iaload, 1) := by decide +kernel
theorem dX4_goAlong_54 : decode cX4_goAlong 54 = .ok (.invokevirtual 104, 3) := by decide +kernel
theorem dX4_goAlong_57 : decode cX4_goAlong 57 = .ok (.ifCond .eq 9, 3) := by decide +kernel
theorem dX4_goAlong_60 : decode cX4_goAlong 60 = .ok (.iinc 1 1, 3) := by decide +kernel
theorem dX4_goAlong_63 : decode cX4_goAlong 63 = .ok (.goto (-24), 3) := by decide +kernel
theorem dX4_goAlong_66 : decode cX4_goAlong 66 = .ok (.iload_n 1, 1) := by decide +kernel
theorem dX4_goAlong_67 : decode cX4_goAlong 67 = .ok (.ireturn, 1) := by decide +kernel
set_option maxRecDepth 20000 in
theorem ggX4_fault_X4_goAlong : GoodIn wsX4_fault wsX4_goAlong := goodIn_r _ [5, 6, 7, 8, 9, 10, 11, 12, 13, 14, 15, 4, 16, 17, 18, 19, 20, 21, 22, 23, 24, 25, 26, 27, 28, 29, 30, 31, 32, 33, 34, 35, 36, 37, 38, 39, 40, 41, 42, 43, 44, 45, 46, 47, 48, 49, 50, 51, 52, 53, 54, 55, 56, 57, 58, 59, 60, 61, 62, 63, 64] (by decide +kernel) (by decide +kernel)
set_option maxRecDepth 20000 in
theorem gX4_fault_X4_goAlong : GoodIn wsX4_fault (wsV RX4 107 RX4 yX4_goAlong wsX4_goAlong) := goodIn_app (goodIn_of _ (by decide +kernel)) ggX4_fault_X4_goAlong
theorem dX4_fault_0 : decode cX4_fault 0 = .ok (.aload_n 0, 1) := by decide +kernel
theorem dX4_fault_1 : decode cX4_fault 1 = .ok (.invokevirtual 107, 3) := by decide +kernel
theorem dX4_fault_4 : decode cX4_fault 4 = .ok (.ireturn, 1) := by decide +kernel
set_option maxRecDepth 20000 in
theorem ggX4_net_X4_goAlong : GoodIn wsX4_net wsX4_goAlong := goodIn_r _ [22, 5, 2, 3, 9, 23, 1, 24, 25, 26, 27, 21, 28, 29, 30, 31, 32, 33, 34, 35, 36, 37, 43, 44, 45, 46, 47, 48, 49, 50, 51, 52, 53, 54, 55, 56, 57, 58, 59, 60, 61, 62, 63, 64, 65, 66, 67, 68, 69, 70, 71, 72, 73, 74, 75, 76, 77, 78, 79, 80, 81] (by decide +kernel) (by decide +kernel)
set_option maxRecDepth 20000 in
theorem gX4_net_X4_goAlong : GoodIn wsX4_net (wsV RX4 107 RX4 yX4_goAlong wsX4_goAlong) := goodIn_app (goodIn_of _ (by decide +kernel)) ggX4_net_X4_goAlong
set_option maxRecDepth 20000 in
theorem ggX4_net_X4_setClock : GoodIn wsX4_net wsX4_setClock := goodIn_r _ [41, 42, 43, 44, 45, 46, 47, 48, 49, 50, 51, 52, 53, 54, 55, 56, 57, 58, 59, 60, 61, 62, 63, 64, 65, 66, 67, 68, 69, 70, 71, 72, 73, 74, 75, 76, 77, 78, 79, 80, 81] (by decide +kernel) (by decide +kernel)
set_option maxRecDepth 20000 in
theorem gX4_net_X4_setClock : GoodIn wsX4_net (wsV RX4 118 RX4 yX4_setClock wsX4_setClock) := goodIn_app (goodIn_of _ (by decide +kernel)) ggX4_net_X4_setClock
theorem dX4_net_0 : decode cX4_net 0 = .ok (.aload_n 0, 1) := by decide +kernel
theorem dX4_net_1 : decode cX4_net 1 = .ok (.invokevirtual 107, 3) := by decide +kernel
theorem dX4_net_4 : decode cX4_net 4 = .ok (.aload_n 0, 1) := by decide +kernel
theorem dX4_net_5 : decode cX4_net 5 = .ok (.getfield 80, 3) := by decide +kernel
theorem dX4_net_8 : decode cX4_net 8 = .ok (.if_icmp .lt 17, 3) := by decide +kernel
theorem dX4_net_11 : decode cX4_net 11 = .ok (.aload_n 0, 1) := by decide +kernel
theorem dX4_net_12 : decode cX4_net 12 = .ok (.getfield 97, 3) := by decide +kernel
theorem dX4_net_15 : decode cX4_net 15 = .ok (.ifCond .eq 10, 3) := by decide +kernel
theorem dX4_net_18 : decode cX4_net 18 = .ok (.aload_n 0, 1) := by decide +kernel
theorem dX4_net_19 : decode cX4_net 19 = .ok (.getfield 84, 3) := by decide +kernel
theorem dX4_net_22 : decode cX4_net 22 = .ok (.ifCond .eq 6, 3) := by decide +kernel
theorem dX4_net_25 : decode cX4_net 25 = .ok (.ldc 111, 2) := by decide +kernel
theorem dX4_net_27 : decode cX4_net 27 = .ok (.ireturn, 1) := by decide +kernel
theorem dX4_net_28 : decode cX4_net 28 = .ok (.aload_n 0, 1) := by decide +kernel
theorem dX4_net_29 : decode cX4_net 29 = .ok (.aload_n 0, 1) := by decide +kernel
theorem dX4_net_30 : decode cX4_net 30 = .ok (.getfield 90, 3) := by decide +kernel
theorem dX4_net_33 : decode cX4_net 33 = .ok (.putfield 112, 3) := by decide +kernel
theorem dX4_net_36 : decode cX4_net 36 = .ok (.aload_n 0, 1) := by decide +kernel
theorem dX4_net_37 : decode cX4_net 37 = .ok (.aload_n 0, 1) := by decide +kernel
theorem dX4_net_38 : decode cX4_net 38 = .ok (.getfield 97, 3) := by decide +kernel
theorem dX4_net_41 : decode cX4_net 41 = .ok (.putfield 115, 3) := by decide +kernel
theorem dX4_net_44 : decode cX4_net 44 = .ok (.iconst 0, 1) := by decide +kernel
theorem dX4_net_45 : decode cX4_net 45 = .ok (.istore_n 1, 1) := by decide +kernel
theorem dX4_net_46 : decode cX4_net 46 = .ok (.iload_n 1, 1) := by decide +kernel
theorem dX4_net_47 : decode cX4_net 47 = .ok (.bipush 36, 2) := by decide +kernel
theorem dX4_net_49 : decode cX4_net 49 = .ok (.if_icmp .ge 28, 3) := by decide +kernel
theorem dX4_net_52 : decode cX4_net 52 = .ok (.aload_n 0, 1) := by decide +kernel
theorem dX4_net_53 : decode cX4_net 53 = .ok (.getfield 13, 3) := by decide +kernel
theorem dX4_net_56 : decode cX4_net 56 = .ok (.iload_n 1, 1) := by decide +kernel
theorem dX4_net_57 : decode cX4_net 57 = .ok (.aload_n 0, 1) := by decide +kernel
theorem dX4_net_58 : decode cX4_net 58 = .ok (.getfield 39, 3) := by decide +kernel
theorem dX4_net_61 : decode cX4_net 61 = .ok (.iload_n 1, 1) := by decide +kernel
theorem dX4_net_62 : decode cX4_net 62 = .ok (.iaload, 1) := by decide +kernel
theorem dX4_net_63 : decode cX4_net 63 = .ok (.iastore, 1) := by decide +kernel
theorem dX4_net_64 : decode cX4_net 64 = .ok (.aload_n 0, 1) := by decide +kernel
theorem dX4_net_65 : decode cX4_net 65 = .ok (.getfield 16, 3) := by decide +kernel
theorem dX4_net_68 : decode cX4_net 68 = .ok (.iload_n 1, 1) := by decide +kernel
theorem dX4_net_69 : decode cX4_net 69 = .ok (.iconst 0, 1) := by decide +kernel
theorem dX4_net_70 : decode cX4_net 70 = .ok (.iastore, 1) := by decide +kernel
theorem dX4_net_71 : decode cX4_net 71 = .ok (.iinc 1 1, 3) := by decide +kernel
theorem dX4_net_74 : decode cX4_net 74 = .ok (.goto (-28), 3) := by decide +kernel
theorem dX4_net_77 : decode cX4_net 77 = .ok (.iconst 0, 1) := by decide +kernel
theorem dX4_net_78 : decode cX4_net 78 = .ok (.istore_n 1, 1) := by decide +kernel
theorem dX4_net_79 : decode cX4_net 79 = .ok (.iload_n 1, 1) := by decide +kernel
theorem dX4_net_80 : decode cX4_net 80 = .ok (.bipush 6, 2) := by decide +kernel
theorem dX4_net_82 : decode cX4_net 82 = .ok (.if_icmp .ge 37, 3) := by decide +kernel
theorem dX4_net_85 : decode cX4_net 85 = .ok (.aload_n 0, 1) := by decide +kernel
theorem dX4_net_86 : decode cX4_net 86 = .ok (.getfield 19, 3) := by decide +kernel
theorem dX4_net_89 : decode cX4_net 89 = .ok (.iload_n 1, 1) := by decide +kernel
theorem dX4_net_90 : decode cX4_net 90 = .ok (.bipush 100, 2) := by decide +kernel
theorem dX4_net_92 : decode cX4_net 92 = .ok (.iastore, 1) := by decide +kernel
theorem dX4_net_93 : decode cX4_net 93 = .ok (.aload_n 0, 1) := by decide +kernel
theorem dX4_net_94 : decode cX4_net 94 = .ok (.getfield 25, 3) := by decide +kernel
theorem dX4_net_97 : decode cX4_net 97 = .ok (.iload_n 1, 1) := by decide +kernel
theorem dX4_net_98 : decode cX4_net 98 = .ok (.iconst 0, 1) := by decide +kernel
theorem dX4_net_99 : decode cX4_net 99 = .ok (.bastore, 1) := by decide +kernel
theorem dX4_net_100 : decode cX4_net 100 = .ok (.aload_n 0, 1) := by decide +kernel
theorem dX4_net_101 : decode cX4_net 101 = .ok (.getfield 29, 3) := by decide +kernel
theorem dX4_net_104 : decode cX4_net 104 = .ok (.iload_n 1, 1) := by decide +kernel
theorem dX4_net_105 : decode cX4_net 105 = .ok (.iconst 0, 1) := by decide +kernel
theorem dX4_net_106 : decode cX4_net 106 = .ok (.iastore, 1) := by decide +kernel
theorem dX4_net_107 : decode cX4_net 107 = .ok (.aload_n 0, 1) := by decide +kernel
theorem dX4_net_108 : decode cX4_net 108 = .ok (.iload_n 1, 1) := by decide +kernel
theorem dX4_net_109 : decode cX4_net 109 = .ok (.iconst 0, 1) := by decide +kernel
theorem dX4_net_110 : decode cX4_net 110 = .ok (.invokevirtual 118, 3) := by decide +kernel
theorem dX4_net_113 : decode cX4_net 113 = .ok (.iinc 1 1, 3) := by decide +kernel
theorem dX4_net_116 : decode cX4_net 116 = .ok (.goto (-37), 3) := by decide +kernel
theorem dX4_net_119 : decode cX4_net 119 = .ok (.aload_n 0, 1) := by decide +kernel
theorem dX4_net_120 : decode cX4_net 120 = .ok (.iconst 0, 1) := by decide +kernel
theorem dX4_net_121 : decode cX4_net 121 = .ok (.putfield 122, 3) := by decide +kernel
theorem dX4_net_124 : decode cX4_net 124 = .ok (.aload_n 0, 1) := by decide +kernel
theorem dX4_net_125 : decode cX4_net 125 = .ok (.iconst 0, 1) := by decide +kernel
theorem dX4_net_126 : decode cX4_net 126 = .ok (.putfield 125, 3) := by decide +kernel
theorem dX4_net_129 : decode cX4_net 129 = .ok (.aload_n 0, 1) := by decide +kernel
theorem dX4_net_130 : decode cX4_net 130 = .ok (.iconst 0, 1) := by decide +kernel
theorem dX4_net_131 : decode cX4_net 131 = .ok (.putfield 128, 3) := by decide +kernel
theorem dX4_net_134 : decode cX4_net 134 = .ok (.aload_n 0, 1) := by decide +kernel
theorem dX4_net_135 : decode cX4_net 135 = .ok (.dup, 1) := by decide +kernel
theorem dX4_net_136 : decode cX4_net 136 = .ok (.getfield 132, 3) := by decide +kernel
theorem dX4_net_139 : decode cX4_net 139 = .ok (.iconst 1, 1) := by decide +kernel
theorem dX4_net_140 : decode cX4_net 140 = .ok (.iadd, 1) := by decide +kernel
theorem dX4_net_141 : decode cX4_net 141 = .ok (.putfield 132, 3) := by decide +kernel
theorem dX4_net_144 : decode cX4_net 144 = .ok (.aload_n 0, 1) := by decide +kernel
theorem dX4_net_145 : decode cX4_net 145 = .ok (.iconst 0, 1) := by decide +kernel
theorem dX4_net_146 : decode cX4_net 146 = .ok (.putfield 80, 3) := by decide +kernel
theorem dX4_net_149 : decode cX4_net 149 = .ok (.aload_n 0, 1) := by decide +kernel
theorem dX4_net_150 : decode cX4_net 150 = .ok (.getfield 112, 3) := by decide +kernel
theorem dX4_net_153 : decode cX4_net 153 = .ok (.ireturn, 1) := by decide +kernel
set_option maxRecDepth 20000 in
theorem ggX4_isNode_X4_within : GoodIn wsX4_isNode wsX4_within := goodIn_r _ [5] (by decide +kernel) (by decide +kernel)
set_option maxRecDepth 20000 in
theorem gX4_isNode_X4_within : GoodIn wsX4_isNode (va_wsS RX4 75 yX4_within wsX4_within) := goodIn_app (goodIn_of _ (by decide +kernel)) ggX4_isNode_X4_within
theorem dX4_isNode_0 : decode cX4_isNode 0 = .ok (.iload_n 1, 1) := by decide +kernel
theorem dX4_isNode_1 : decode cX4_isNode 1 = .ok (.iconst 0, 1) := by decide +kernel
theorem dX4_isNode_2 : decode cX4_isNode 2 = .ok (.aload_n 0, 1) := by decide +kernel
theorem dX4_isNode_3 : decode cX4_isNode 3 = .ok (.getfield 112, 3) := by decide +kernel
theorem dX4_isNode_6 : decode cX4_isNode 6 = .ok (.iconst 1, 1) := by decide +kernel
theorem dX4_isNode_7 : decode cX4_isNode 7 = .ok (.isub, 1) := by decide +kernel
theorem dX4_isNode_8 : decode cX4_isNode 8 = .ok (.invokestatic 75, 3) := by decide +kernel
theorem dX4_isNode_11 : decode cX4_isNode 11 = .ok (.ireturn, 1) := by decide +kernel
set_option maxRecDepth 20000 in
theorem ggX4_areBeside_X4_isNode : GoodIn wsX4_areBeside wsX4_isNode := goodIn_r _ [7, 8, 9, 10, 6, 11, 12, 13, 14, 15, 16, 17, 18, 19, 20, 21, 22, 23, 24, 25, 26, 27, 28, 29, 30, 31, 32, 33, 34, 35, 36, 37, 38, 39, 40, 41, 42, 43, 44, 45, 46, 47, 48, 49, 50] (by decide +kernel) (by decide +kernel)
set_option maxRecDepth 20000 in
theorem gX4_areBeside_X4_isNode : GoodIn wsX4_areBeside (wsV RX4 135 RX4 yX4_isNode wsX4_isNode) := goodIn_app (goodIn_of _ (by decide +kernel)) ggX4_areBeside_X4_isNode
theorem dX4_areBeside_0 : decode cX4_areBeside 0 = .ok (.aload_n 0, 1) := by decide +kernel
theorem dX4_areBeside_1 : decode cX4_areBeside 1 = .ok (.iload_n 1, 1) := by decide +kernel
theorem dX4_areBeside_2 : decode cX4_areBeside 2 = .ok (.invokevirtual 135, 3) := by decide +kernel
theorem dX4_areBeside_5 : decode cX4_areBeside 5 = .ok (.ifCond .eq 36, 3) := by decide +kernel
theorem dX4_areBeside_8 : decode cX4_areBeside 8 = .ok (.aload_n 0, 1) := by decide +kernel
theorem dX4_areBeside_9 : decode cX4_areBeside 9 = .ok (.iload_n 2, 1) := by decide +kernel
theorem dX4_areBeside_10 : decode cX4_areBeside 10 = .ok (.invokevirtual 135, 3) := by decide +kernel
theorem dX4_areBeside_13 : decode cX4_areBeside 13 = .ok (.ifCond .eq 28, 3) := by decide +kernel
theorem dX4_areBeside_16 : decode cX4_areBeside 16 = .ok (.iload_n 1, 1) := by decide +kernel
theorem dX4_areBeside_17 : decode cX4_areBeside 17 = .ok (.iload_n 2, 1) := by decide +kernel
theorem dX4_areBeside_18 : decode cX4_areBeside 18 = .ok (.if_icmp .eq 23, 3) := by decide +kernel
theorem dX4_areBeside_21 : decode cX4_areBeside 21 = .ok (.aload_n 0, 1) := by decide +kernel
theorem dX4_areBeside_22 : decode cX4_areBeside 22 = .ok (.getfield 13, 3) := by decide +kernel
theorem dX4_areBeside_25 : decode cX4_areBeside 25 = .ok (.bipush 6, 2) := by decide +kernel
theorem dX4_areBeside_27 : decode cX4_areBeside 27 = .ok (.iload_n 1, 1) := by decide +kernel
theorem dX4_areBeside_28 : decode cX4_areBeside 28 = .ok (.imul, 1) := by decide +kernel
theorem dX4_areBeside_29 : decode cX4_areBeside 29 = .ok (.iload_n 2, 1) := by decide +kernel
theorem dX4_areBeside_30 : decode cX4_areBeside 30 = .ok (.iadd, 1) := by decide +kernel
theorem dX4_areBeside_31 : decode cX4_areBeside 31 = .ok (.iaload, 1) := by decide +kernel
theorem dX4_areBeside_32 : decode cX4_areBeside 32 = .ok (.ldc 96, 2) := by decide +kernel
theorem dX4_areBeside_34 : decode cX4_areBeside 34 = .ok (.if_icmp .eq 7, 3) := by decide +kernel
theorem dX4_areBeside_37 : decode cX4_areBeside 37 = .ok (.iconst 1, 1) := by decide +kernel
theorem dX4_areBeside_38 : decode cX4_areBeside 38 = .ok (.goto 4, 3) := by decide +kernel
theorem dX4_areBeside_41 : decode cX4_areBeside 41 = .ok (.iconst 0, 1) := by decide +kernel
theorem dX4_areBeside_42 : decode cX4_areBeside 42 = .ok (.ireturn, 1) := by decide +kernel
theorem dX4_setClock_0 : decode cX4_setClock 0 = .ok (.iconst 0, 1) := by decide +kernel
theorem dX4_setClock_1 : decode cX4_setClock 1 = .ok (.istore_n 3, 1) := by decide +kernel
theorem dX4_setClock_2 : decode cX4_setClock 2 = .ok (.iload_n 3, 1) := by decide +kernel
theorem dX4_setClock_3 : decode cX4_setClock 3 = .ok (.iconst 4, 1) := by decide +kernel
theorem dX4_setClock_4 : decode cX4_setClock 4 = .ok (.if_icmp .ge 20, 3) := by decide +kernel
theorem dX4_setClock_7 : decode cX4_setClock 7 = .ok (.aload_n 0, 1) := by decide +kernel
theorem dX4_setClock_8 : decode cX4_setClock 8 = .ok (.getfield 22, 3) := by decide +kernel
theorem dX4_setClock_11 : decode cX4_setClock 11 = .ok (.iconst 4, 1) := by decide +kernel
theorem dX4_setClock_12 : decode cX4_setClock 12 = .ok (.iload_n 1, 1) := by decide +kernel
theorem dX4_setClock_13 : decode cX4_setClock 13 = .ok (.imul, 1) := by decide +kernel
theorem dX4_setClock_14 : decode cX4_setClock 14 = .ok (.iload_n 3, 1) := by decide +kernel
theorem dX4_setClock_15 : decode cX4_setClock 15 = .ok (.iadd, 1) := by decide +kernel
theorem dX4_setClock_16 : decode cX4_setClock 16 = .ok (.iload_n 2, 1) := by decide +kernel
theorem dX4_setClock_17 : decode cX4_setClock 17 = .ok (.iastore, 1) := by decide +kernel
theorem dX4_setClock_18 : decode cX4_setClock 18 = .ok (.iinc 3 1, 3) := by decide +kernel
theorem dX4_setClock_21 : decode cX4_setClock 21 = .ok (.goto (-19), 3) := by decide +kernel
theorem dX4_setClock_24 : decode cX4_setClock 24 = .ok (.return_, 1) := by decide +kernel
set_option maxRecDepth 20000 in
theorem ggX4_set_X4_within : GoodIn wsX4_set wsX4_within := goodIn_r _ [7] (by decide +kernel) (by decide +kernel)
set_option maxRecDepth 20000 in
theorem gX4_set_X4_within : GoodIn wsX4_set (va_wsS RX4 75 yX4_within wsX4_within) := goodIn_app (goodIn_of _ (by decide +kernel)) ggX4_set_X4_within
theorem dX4_set_0 : decode cX4_set 0 = .ok (.iload_n 1, 1) := by decide +kernel
theorem dX4_set_1 : decode cX4_set 1 = .ok (.iconst 0, 1) := by decide +kernel
theorem dX4_set_2 : decode cX4_set 2 = .ok (.iconst 1, 1) := by decide +kernel
theorem dX4_set_3 : decode cX4_set 3 = .ok (.invokestatic 75, 3) := by decide +kernel
theorem dX4_set_6 : decode cX4_set 6 = .ok (.ifCond .eq 23, 3) := by decide +kernel
theorem dX4_set_9 : decode cX4_set 9 = .ok (.iload_n 2, 1) := by decide +kernel
theorem dX4_set_10 : decode cX4_set 10 = .ok (.iconst 1, 1) := by decide +kernel
theorem dX4_set_11 : decode cX4_set 11 = .ok (.iload_n 1, 1) := by decide +kernel
theorem dX4_set_12 : decode cX4_set 12 = .ok (.ifCond .ne 9, 3) := by decide +kernel
theorem dX4_set_15 : decode cX4_set 15 = .ok (.sipush 500, 3) := by decide +kernel
theorem dX4_set_18 : decode cX4_set 18 = .ok (.goto 5, 3) := by decide +kernel
theorem dX4_set_21 : decode cX4_set 21 = .ok (.bipush 60, 2) := by decide +kernel
theorem dX4_set_23 : decode cX4_set 23 = .ok (.invokestatic 75, 3) := by decide +kernel
theorem dX4_set_26 : decode cX4_set 26 = .ok (.ifCond .ne 6, 3) := by decide +kernel
theorem dX4_set_29 : decode cX4_set 29 = .ok (.ldc 79, 2) := by decide +kernel
theorem dX4_set_31 : decode cX4_set 31 = .ok (.ireturn, 1) := by decide +kernel
theorem dX4_set_32 : decode cX4_set 32 = .ok (.iload_n 1, 1) := by decide +kernel
theorem dX4_set_33 : decode cX4_set 33 = .ok (.ifCond .ne 10, 3) := by decide +kernel
theorem dX4_set_36 : decode cX4_set 36 = .ok (.aload_n 0, 1) := by decide +kernel
theorem dX4_set_37 : decode cX4_set 37 = .ok (.getfield 32, 3) := by decide +kernel
theorem dX4_set_40 : decode cX4_set 40 = .ok (.goto 7, 3) := by decide +kernel
theorem dX4_set_43 : decode cX4_set 43 = .ok (.aload_n 0, 1) := by decide +kernel
theorem dX4_set_44 : decode cX4_set 44 = .ok (.getfield 36, 3) := by decide +kernel
theorem dX4_set_47 : decode cX4_set 47 = .ok (.istore_n 3, 1) := by decide +kernel
theorem dX4_set_48 : decode cX4_set 48 = .ok (.aload_n 0, 1) := by decide +kernel
theorem dX4_set_49 : decode cX4_set 49 = .ok (.iload_n 1, 1) := by decide +kernel
theorem dX4_set_50 : decode cX4_set 50 = .ok (.ifCond .ne 7, 3) := by decide +kernel
theorem dX4_set_53 : decode cX4_set 53 = .ok (.iload_n 2, 1) := by decide +kernel
theorem dX4_set_54 : decode cX4_set 54 = .ok (.goto 7, 3) := by decide +kernel
theorem dX4_set_57 : decode cX4_set 57 = .ok (.aload_n 0, 1) := by decide +kernel
theorem dX4_set_58 : decode cX4_set 58 = .ok (.getfield 32, 3) := by decide +kernel
theorem dX4_set_61 : decode cX4_set 61 = .ok (.putfield 32, 3) := by decide +kernel
theorem dX4_set_64 : decode cX4_set 64 = .ok (.aload_n 0, 1) := by decide +kernel
theorem dX4_set_65 : decode cX4_set 65 = .ok (.iload_n 1, 1) := by decide +kernel
theorem dX4_set_66 : decode cX4_set 66 = .ok (.ifCond .ne 10, 3) := by decide +kernel
theorem dX4_set_69 : decode cX4_set 69 = .ok (.aload_n 0, 1) := by decide +kernel
theorem dX4_set_70 : decode cX4_set 70 = .ok (.getfield 36, 3) := by decide +kernel
theorem dX4_set_73 : decode cX4_set 73 = .ok (.goto 4, 3) := by decide +kernel
theorem dX4_set_76 : decode cX4_set 76 = .ok (.iload_n 2, 1) := by decide +kernel
theorem dX4_set_77 : decode cX4_set 77 = .ok (.putfield 36, 3) := by decide +kernel
theorem dX4_set_80 : decode cX4_set 80 = .ok (.iload_n 3, 1) := by decide +kernel
theorem dX4_set_81 : decode cX4_set 81 = .ok (.ireturn, 1) := by decide +kernel
set_option maxRecDepth 20000 in
theorem ggX4_rate_X4_isNode : GoodIn wsX4_rate wsX4_isNode := goodIn_r _ [8, 9, 10, 11, 7, 12, 13, 14, 15, 16, 17, 18, 19, 20, 21, 22, 23, 24, 25, 26, 27, 28, 29, 30, 31, 32, 33, 34, 35, 36, 37, 38, 39, 40, 41, 42, 43, 44, 45, 46, 47, 48, 49, 50, 51] (by decide +kernel) (by decide +kernel)
set_option maxRecDepth 20000 in
theorem gX4_rate_X4_isNode : GoodIn wsX4_rate (wsV RX4 135 RX4 yX4_isNode wsX4_isNode) := goodIn_app (goodIn_of _ (by decide +kernel)) ggX4_rate_X4_isNode
set_option maxRecDepth 20000 in
theorem ggX4_rate_X4_within : GoodIn wsX4_rate wsX4_within := goodIn_r _ [12] (by decide +kernel) (by decide +kernel)
set_option maxRecDepth 20000 in
theorem gX4_rate_X4_within : GoodIn wsX4_rate (va_wsS RX4 75 yX4_within wsX4_within) := goodIn_app (goodIn_of _ (by decide +kernel)) ggX4_rate_X4_within
theorem dX4_rate_0 : decode cX4_rate 0 = .ok (.aload_n 0, 1) := by decide +kernel
theorem dX4_rate_1 : decode cX4_rate 1 = .ok (.iload_n 1, 1) := by decide +kernel
theorem dX4_rate_2 : decode cX4_rate 2 = .ok (.invokevirtual 135, 3) := by decide +kernel
theorem dX4_rate_5 : decode cX4_rate 5 = .ok (.ifCond .ne 6, 3) := by decide +kernel
theorem dX4_rate_8 : decode cX4_rate 8 = .ok (.ldc 138, 2) := by decide +kernel
theorem dX4_rate_10 : decode cX4_rate 10 = .ok (.ireturn, 1) := by decide +kernel
theorem dX4_rate_11 : decode cX4_rate 11 = .ok (.iload_n 2, 1) := by decide +kernel
theorem dX4_rate_12 : decode cX4_rate 12 = .ok (.bipush 90, 2) := by decide +kernel
theorem dX4_rate_14 : decode cX4_rate 14 = .ok (.bipush 110, 2) := by decide +kernel
theorem dX4_rate_16 : decode cX4_rate 16 = .ok (.invokestatic 75, 3) := by decide +kernel
theorem dX4_rate_19 : decode cX4_rate 19 = .ok (.ifCond .ne 6, 3) := by decide +kernel
theorem dX4_rate_22 : decode cX4_rate 22 = .ok (.ldc 79, 2) := by decide +kernel
theorem dX4_rate_24 : decode cX4_rate 24 = .ok (.ireturn, 1) := by decide +kernel
theorem dX4_rate_25 : decode cX4_rate 25 = .ok (.aload_n 0, 1) := by decide +kernel
theorem dX4_rate_26 : decode cX4_rate 26 = .ok (.getfield 19, 3) := by decide +kernel
theorem dX4_rate_29 : decode cX4_rate 29 = .ok (.iload_n 1, 1) := by decide +kernel
theorem dX4_rate_30 : decode cX4_rate 30 = .ok (.iaload, 1) := by decide +kernel
theorem dX4_rate_31 : decode cX4_rate 31 = .ok (.istore_n 3, 1) := by decide +kernel
theorem dX4_rate_32 : decode cX4_rate 32 = .ok (.aload_n 0, 1) := by decide +kernel
theorem dX4_rate_33 : decode cX4_rate 33 = .ok (.getfield 19, 3) := by decide +kernel
theorem dX4_rate_36 : decode cX4_rate 36 = .ok (.iload_n 1, 1) := by decide +kernel
theorem dX4_rate_37 : decode cX4_rate 37 = .ok (.iload_n 2, 1) := by decide +kernel
theorem dX4_rate_38 : decode cX4_rate 38 = .ok (.iastore, 1) := by decide +kernel
theorem dX4_rate_39 : decode cX4_rate 39 = .ok (.iload_n 3, 1) := by decide +kernel
theorem dX4_rate_40 : decode cX4_rate 40 = .ok (.ireturn, 1) := by decide +kernel
set_option maxRecDepth 20000 in
theorem ggX4_put_X4_isNode : GoodIn wsX4_put wsX4_isNode := goodIn_r _ [9, 10, 11, 12, 8, 13, 18, 19, 20, 21, 22, 23, 24, 25, 26, 27, 28, 29, 30, 31, 32, 33, 34, 35, 36, 37, 38, 39, 40, 41, 42, 43, 44, 45, 46, 47, 48, 49, 50, 51, 52, 53, 54, 55, 56] (by decide +kernel) (by decide +kernel)
set_option maxRecDepth 20000 in
theorem gX4_put_X4_isNode : GoodIn wsX4_put (wsV RX4 135 RX4 yX4_isNode wsX4_isNode) := goodIn_app (goodIn_of _ (by decide +kernel)) ggX4_put_X4_isNode
set_option maxRecDepth 20000 in
theorem ggX4_put_X4_within : GoodIn wsX4_put wsX4_within := goodIn_r _ [13] (by decide +kernel) (by decide +kernel)
set_option maxRecDepth 20000 in
theorem gX4_put_X4_within : GoodIn wsX4_put (va_wsS RX4 75 yX4_within wsX4_within) := goodIn_app (goodIn_of _ (by decide +kernel)) ggX4_put_X4_within
set_option maxRecDepth 20000 in
theorem ggX4_put_X4_setClock : GoodIn wsX4_put wsX4_setClock := goodIn_r _ [17, 4, 18, 19, 20, 21, 22, 23, 24, 25, 26, 27, 28, 29, 30, 31, 32, 33, 34, 35, 36, 37, 38, 39, 40, 41, 42, 43, 44, 45, 46, 47, 48, 49, 50, 51, 52, 53, 54, 55, 56] (by decide +kernel) (by decide +kernel)
set_option maxRecDepth 20000 in
theorem gX4_put_X4_setClock : GoodIn wsX4_put (wsV RX4 118 RX4 yX4_setClock wsX4_setClock) := goodIn_app (goodIn_of _ (by decide +kernel)) ggX4_put_X4_setClock
theorem dX4_put_0 : decode cX4_put 0 = .ok (.aload_n 0, 1) := by decide +kernel
theorem dX4_put_1 : decode cX4_put 1 = .ok (.iload_n 1, 1) := by decide +kernel
theorem dX4_put_2 : decode cX4_put 2 = .ok (.invokevirtual 135, 3) := by decide +kernel
theorem dX4_put_5 : decode cX4_put 5 = .ok (.ifCond .ne 6, 3) := by decide +kernel
theorem dX4_put_8 : decode cX4_put 8 = .ok (.ldc 138, 2) := by decide +kernel
theorem dX4_put_10 : decode cX4_put 10 = .ok (.ireturn, 1) := by decide +kernel
theorem dX4_put_11 : decode cX4_put 11 = .ok (.iload_n 2, 1) := by decide +kernel
theorem dX4_put_12 : decode cX4_put 12 = .ok (.iconst 0, 1) := by decide +kernel
theorem dX4_put_13 : decode cX4_put 13 = .ok (.ldc 139, 2) := by decide +kernel
theorem dX4_put_15 : decode cX4_put 15 = .ok (.invokestatic 75, 3) := by decide +kernel
theorem dX4_put_18 : decode cX4_put 18 = .ok (.ifCond .ne 6, 3) := by decide +kernel
theorem dX4_put_21 : decode cX4_put 21 = .ok (.ldc 79, 2) := by decide +kernel
theorem dX4_put_23 : decode cX4_put 23 = .ok (.ireturn, 1) := by decide +kernel
theorem dX4_put_24 : decode cX4_put 24 = .ok (.aload_n 0, 1) := by decide +kernel
theorem dX4_put_25 : decode cX4_put 25 = .ok (.getfield 22, 3) := by decide +kernel
theorem dX4_put_28 : decode cX4_put 28 = .ok (.iconst 4, 1) := by decide +kernel
theorem dX4_put_29 : decode cX4_put 29 = .ok (.iload_n 1, 1) := by decide +kernel
theorem dX4_put_30 : decode cX4_put 30 = .ok (.imul, 1) := by decide +kernel
theorem dX4_put_31 : decode cX4_put 31 = .ok (.iaload, 1) := by decide +kernel
theorem dX4_put_32 : decode cX4_put 32 = .ok (.istore_n 3, 1) := by decide +kernel
theorem dX4_put_33 : decode cX4_put 33 = .ok (.aload_n 0, 1) := by decide +kernel
theorem dX4_put_34 : decode cX4_put 34 = .ok (.iload_n 1, 1) := by decide +kernel
theorem dX4_put_35 : decode cX4_put 35 = .ok (.iload_n 2, 1) := by decide +kernel
theorem dX4_put_36 : decode cX4_put 36 = .ok (.invokevirtual 118, 3) := by decide +kernel
theorem dX4_put_39 : decode cX4_put 39 = .ok (.iload_n 3, 1) := by decide +kernel
theorem dX4_put_40 : decode cX4_put 40 = .ok (.ireturn, 1) := by decide +kernel
set_option maxRecDepth 20000 in
theorem ggX4_wrong_X4_areBeside : GoodIn wsX4_wrong wsX4_areBeside := goodIn_r _ [8, 9, 10, 11, 12, 13, 7, 14, 15, 16, 17, 18, 19, 20, 21, 22, 23, 24, 25, 26, 27, 28, 29, 30, 31, 32, 33, 34, 35, 36, 37, 38, 39, 40, 41, 42, 43, 44, 45, 46, 47, 48, 49, 50, 51, 52, 53, 54, 55, 56, 57] (by decide +kernel) (by decide +kernel)
set_option maxRecDepth 20000 in
theorem gX4_wrong_X4_areBeside : GoodIn wsX4_wrong (wsV RX4 140 RX4 yX4_areBeside wsX4_areBeside) := goodIn_app (goodIn_of _ (by decide +kernel)) ggX4_wrong_X4_areBeside
set_option maxRecDepth 20000 in
theorem ggX4_wrong_X4_within : GoodIn wsX4_wrong wsX4_within := goodIn_r _ [18] (by decide +kernel) (by decide +kernel)
set_option maxRecDepth 20000 in
theorem gX4_wrong_X4_within : GoodIn wsX4_wrong (va_wsS RX4 75 yX4_within wsX4_within) := goodIn_app (goodIn_of _ (by decide +kernel)) ggX4_wrong_X4_within
theorem dX4_wrong_0 : decode cX4_wrong 0 = .ok (.aload_n 0, 1) := by decide +kernel
theorem dX4_wrong_1 : decode cX4_wrong 1 = .ok (.iload_n 1, 1) := by decide +kernel
theorem dX4_wrong_2 : decode cX4_wrong 2 = .ok (.iload_n 2, 1) := by decide +kernel
theorem dX4_wrong_3 : decode cX4_wrong 3 = .ok (.invokevirtual 140, 3) := by decide +kernel
theorem dX4_wrong_6 : decode cX4_wrong 6 = .ok (.ifCond .ne 6, 3) := by decide +kernel
theorem dX4_wrong_9 : decode cX4_wrong 9 = .ok (.ldc 138, 2) := by decide +kernel
theorem dX4_wrong_11 : decode cX4_wrong 11 = .ok (.ireturn, 1) := by decide +kernel
theorem dX4_wrong_12 : decode cX4_wrong 12 = .ok (.iload_n 3, 1) := by decide +kernel
theorem dX4_wrong_13 : decode cX4_wrong 13 = .ok (.bipush (-9), 2) := by decide +kernel
theorem dX4_wrong_15 : decode cX4_wrong 15 = .ok (.bipush 9, 2) := by decide +kernel
theorem dX4_wrong_17 : decode cX4_wrong 17 = .ok (.invokestatic 75, 3) := by decide +kernel
theorem dX4_wrong_20 : decode cX4_wrong 20 = .ok (.ifCond .ne 6, 3) := by decide +kernel
theorem dX4_wrong_23 : decode cX4_wrong 23 = .ok (.ldc 79, 2) := by decide +kernel
theorem dX4_wrong_25 : decode cX4_wrong 25 = .ok (.ireturn, 1) := by decide +kernel
theorem dX4_wrong_26 : decode cX4_wrong 26 = .ok (.aload_n 0, 1) := by decide +kernel
theorem dX4_wrong_27 : decode cX4_wrong 27 = .ok (.getfield 16, 3) := by decide +kernel
theorem dX4_wrong_30 : decode cX4_wrong 30 = .ok (.bipush 6, 2) := by decide +kernel
theorem dX4_wrong_32 : decode cX4_wrong 32 = .ok (.iload_n 1, 1) := by decide +kernel
theorem dX4_wrong_33 : decode cX4_wrong 33 = .ok (.imul, 1) := by decide +kernel
theorem dX4_wrong_34 : decode cX4_wrong 34 = .ok (.iload_n 2, 1) := by decide +kernel
theorem dX4_wrong_35 : decode cX4_wrong 35 = .ok (.iadd, 1) := by decide +kernel
theorem dX4_wrong_36 : decode cX4_wrong 36 = .ok (.iaload, 1) := by decide +kernel
theorem dX4_wrong_37 : decode cX4_wrong 37 = .ok (.istore 4, 2) := by decide +kernel
theorem dX4_wrong_39 : decode cX4_wrong 39 = .ok (.aload_n 0, 1) := by decide +kernel
theorem dX4_wrong_40 : decode cX4_wrong 40 = .ok (.getfield 16, 3) := by decide +kernel
theorem dX4_wrong_43 : decode cX4_wrong 43 = .ok (.bipush 6, 2) := by decide +kernel
theorem dX4_wrong_45 : decode cX4_wrong 45 = .ok (.iload_n 1, 1) := by decide +kernel
theorem dX4_wrong_46 : decode cX4_wrong 46 = .ok (.imul, 1) := by decide +kernel
theorem dX4_wrong_47 : decode cX4_wrong 47 = .ok (.iload_n 2, 1) := by decide +kernel
theorem dX4_wrong_48 : decode cX4_wrong 48 = .ok (.iadd, 1) := by decide +kernel
theorem dX4_wrong_49 : decode cX4_wrong 49 = .ok (.iload_n 3, 1) := by decide +kernel
theorem dX4_wrong_50 : decode cX4_wrong 50 = .ok (.iastore, 1) := by decide +kernel
theorem dX4_wrong_51 : decode cX4_wrong 51 = .ok (.iload 4, 2) := by decide +kernel
theorem dX4_wrong_53 : decode cX4_wrong 53 = .ok (.ireturn, 1) := by decide +kernel
set_option maxRecDepth 20000 in
theorem ggX4_delay_X4_areBeside : GoodIn wsX4_delay wsX4_areBeside := goodIn_r _ [8, 3, 9, 10, 11, 12, 7, 13, 14, 15, 16, 17, 18, 19, 20, 21, 22, 23, 24, 25, 26, 27, 28, 29, 30, 31, 32, 33, 34, 35, 36, 37, 38, 39, 40, 41, 42, 43, 44, 45, 46, 47, 48, 49, 50, 51, 52, 53, 54, 55, 56] (by decide +kernel) (by decide +kernel)
set_option maxRecDepth 20000 in
theorem gX4_delay_X4_areBeside : GoodIn wsX4_delay (wsV RX4 140 RX4 yX4_areBeside wsX4_areBeside) := goodIn_app (goodIn_of _ (by decide +kernel)) ggX4_delay_X4_areBeside
set_option maxRecDepth 20000 in
theorem ggX4_delay_X4_within : GoodIn wsX4_delay wsX4_within := goodIn_r _ [17] (by decide +kernel) (by decide +kernel)
set_option maxRecDepth 20000 in
theorem gX4_delay_X4_within : GoodIn wsX4_delay (va_wsS RX4 75 yX4_within wsX4_within) := goodIn_app (goodIn_of _ (by decide +kernel)) ggX4_delay_X4_within
theorem dX4_delay_0 : decode cX4_delay 0 = .ok (.aload_n 0, 1) := by decide +kernel
theorem dX4_delay_1 : decode cX4_delay 1 = .ok (.iload_n 1, 1) := by decide +kernel
theorem dX4_delay_2 : decode cX4_delay 2 = .ok (.iload_n 2, 1) := by decide +kernel
theorem dX4_delay_3 : decode cX4_delay 3 = .ok (.invokevirtual 140, 3) := by decide +kernel
theorem dX4_delay_6 : decode cX4_delay 6 = .ok (.ifCond .ne 6, 3) := by decide +kernel
theorem dX4_delay_9 : decode cX4_delay 9 = .ok (.ldc 138, 2) := by decide +kernel
theorem dX4_delay_11 : decode cX4_delay 11 = .ok (.ireturn, 1) := by decide +kernel
theorem dX4_delay_12 : decode cX4_delay 12 = .ok (.iload_n 3, 1) := by decide +kernel
theorem dX4_delay_13 : decode cX4_delay 13 = .ok (.iconst 0, 1) := by decide +kernel
theorem dX4_delay_14 : decode cX4_delay 14 = .ok (.iconst 3, 1) := by decide +kernel
theorem dX4_delay_15 : decode cX4_delay 15 = .ok (.invokestatic 75, 3) := by decide +kernel
theorem dX4_delay_18 : decode cX4_delay 18 = .ok (.ifCond .ne 6, 3) := by decide +kernel
theorem dX4_delay_21 : decode cX4_delay 21 = .ok (.ldc 79, 2) := by decide +kernel
theorem dX4_delay_23 : decode cX4_delay 23 = .ok (.ireturn, 1) := by decide +kernel
theorem dX4_delay_24 : decode cX4_delay 24 = .ok (.aload_n 0, 1) := by decide +kernel
theorem dX4_delay_25 : decode cX4_delay 25 = .ok (.getfield 13, 3) := by decide +kernel
theorem dX4_delay_28 : decode cX4_delay 28 = .ok (.bipush 6, 2) := by decide +kernel
theorem dX4_delay_30 : decode cX4_delay 30 = .ok (.iload_n 1, 1) := by decide +kernel
theorem dX4_delay_31 : decode cX4_delay 31 = .ok (.imul, 1) := by decide +kernel
theorem dX4_delay_32 : decode cX4_delay 32 = .ok (.iload_n 2, 1) := by decide +kernel
theorem dX4_delay_33 : decode cX4_delay 33 = .ok (.iadd, 1) := by decide +kernel
theorem dX4_delay_34 : decode cX4_delay 34 = .ok (.iaload, 1) := by decide +kernel
theorem dX4_delay_35 : decode cX4_delay 35 = .ok (.istore 4, 2) := by decide +kernel
theorem dX4_delay_37 : decode cX4_delay 37 = .ok (.aload_n 0, 1) := by decide +kernel
theorem dX4_delay_38 : decode cX4_delay 38 = .ok (.getfield 13, 3) := by decide +kernel
theorem dX4_delay_41 : decode cX4_delay 41 = .ok (.bipush 6, 2) := by decide +kernel
theorem dX4_delay_43 : decode cX4_delay 43 = .ok (.iload_n 1, 1) := by decide +kernel
theorem dX4_delay_44 : decode cX4_delay 44 = .ok (.imul, 1) := by decide +kernel
theorem dX4_delay_45 : decode cX4_delay 45 = .ok (.iload_n 2, 1) := by decide +kernel
theorem dX4_delay_46 : decode cX4_delay 46 = .ok (.iadd, 1) := by decide +kernel
theorem dX4_delay_47 : decode cX4_delay 47 = .ok (.iload_n 3, 1) := by decide +kernel
theorem dX4_delay_48 : decode cX4_delay 48 = .ok (.iastore, 1) := by decide +kernel
theorem dX4_delay_49 : decode cX4_delay 49 = .ok (.aload_n 0, 1) := by decide +kernel
theorem dX4_delay_50 : decode cX4_delay 50 = .ok (.getfield 13, 3) := by decide +kernel
theorem dX4_delay_53 : decode cX4_delay 53 = .ok (.bipush 6, 2) := by decide +kernel
theorem dX4_delay_55 : decode cX4_delay 55 = .ok (.iload_n 2, 1) := by decide +kernel
theorem dX4_delay_56 : decode cX4_delay 56 = .ok (.imul, 1) := by decide +kernel
theorem dX4_delay_57 : decode cX4_delay 57 = .ok (.iload_n 1, 1) := by decide +kernel
theorem dX4_delay_58 : decode cX4_delay 58 = .ok (.iadd, 1) := by decide +kernel
theorem dX4_delay_59 : decode cX4_delay 59 = .ok (.iload_n 3, 1) := by decide +kernel
theorem dX4_delay_60 : decode cX4_delay 60 = .ok (.iastore, 1) := by decide +kernel
theorem dX4_delay_61 : decode cX4_delay 61 = .ok (.iload 4, 2) := by decide +kernel
theorem dX4_delay_63 : decode cX4_delay 63 = .ok (.ireturn, 1) := by decide +kernel
theorem dX4_guess_0 : decode cX4_guess 0 = .ok (.aload_n 0, 1) := by decide +kernel
theorem dX4_guess_1 : decode cX4_guess 1 = .ok (.getfield 13, 3) := by decide +kernel
theorem dX4_guess_4 : decode cX4_guess 4 = .ok (.bipush 6, 2) := by decide +kernel
theorem dX4_guess_6 : decode cX4_guess 6 = .ok (.iload_n 1, 1) := by decide +kernel
theorem dX4_guess_7 : decode cX4_guess 7 = .ok (.imul, 1) := by decide +kernel
theorem dX4_guess_8 : decode cX4_guess 8 = .ok (.iload_n 2, 1) := by decide +kernel
theorem dX4_guess_9 : decode cX4_guess 9 = .ok (.iadd, 1) := by decide +kernel
theorem dX4_guess_10 : decode cX4_guess 10 = .ok (.iaload, 1) := by decide +kernel
theorem dX4_guess_11 : decode cX4_guess 11 = .ok (.istore_n 3, 1) := by decide +kernel
theorem dX4_guess_12 : decode cX4_guess 12 = .ok (.aload_n 0, 1) := by decide +kernel
theorem dX4_guess_13 : decode cX4_guess 13 = .ok (.getfield 22, 3) := by decide +kernel
theorem dX4_guess_16 : decode cX4_guess 16 = .ok (.iconst 4, 1) := by decide +kernel
theorem dX4_guess_17 : decode cX4_guess 17 = .ok (.iload_n 2, 1) := by decide +kernel
theorem dX4_guess_18 : decode cX4_guess 18 = .ok (.imul, 1) := by decide +kernel
theorem dX4_guess_19 : decode cX4_guess 19 = .ok (.iload_n 3, 1) := by decide +kernel
theorem dX4_guess_20 : decode cX4_guess 20 = .ok (.iadd, 1) := by decide +kernel
theorem dX4_guess_21 : decode cX4_guess 21 = .ok (.iaload, 1) := by decide +kernel
theorem dX4_guess_22 : decode cX4_guess 22 = .ok (.bipush 100, 2) := by decide +kernel
theorem dX4_guess_24 : decode cX4_guess 24 = .ok (.iload_n 3, 1) := by decide +kernel
theorem dX4_guess_25 : decode cX4_guess 25 = .ok (.imul, 1) := by decide +kernel
theorem dX4_guess_26 : decode cX4_guess 26 = .ok (.iadd, 1) := by decide +kernel
theorem dX4_guess_27 : decode cX4_guess 27 = .ok (.aload_n 0, 1) := by decide +kernel
theorem dX4_guess_28 : decode cX4_guess 28 = .ok (.getfield 16, 3) := by decide +kernel
theorem dX4_guess_31 : decode cX4_guess 31 = .ok (.bipush 6, 2) := by decide +kernel
theorem dX4_guess_33 : decode cX4_guess 33 = .ok (.iload_n 1, 1) := by decide +kernel
theorem dX4_guess_34 : decode cX4_guess 34 = .ok (.imul, 1) := by decide +kernel
theorem dX4_guess_35 : decode cX4_guess 35 = .ok (.iload_n 2, 1) := by decide +kernel
theorem dX4_guess_36 : decode cX4_guess 36 = .ok (.iadd, 1) := by decide +kernel
theorem dX4_guess_37 : decode cX4_guess 37 = .ok (.iaload, 1) := by decide +kernel
theorem dX4_guess_38 : decode cX4_guess 38 = .ok (.iadd, 1) := by decide +kernel
theorem dX4_guess_39 : decode cX4_guess 39 = .ok (.ireturn, 1) := by decide +kernel
set_option maxRecDepth 20000 in
theorem ggX4_off_X4_areBeside : GoodIn wsX4_off wsX4_areBeside := goodIn_r _ [8, 9, 1, 10, 11, 12, 7, 13, 2, 14, 15, 16, 22, 23, 24, 25, 26, 27, 28, 29, 30, 31, 32, 33, 34, 35, 36, 37, 38, 39, 40, 41, 42, 43, 44, 45, 46, 47, 48, 49, 50, 51, 52, 53, 54, 55, 56, 57, 58, 59, 60] (by decide +kernel) (by decide +kernel)
set_option maxRecDepth 20000 in
theorem gX4_off_X4_areBeside : GoodIn wsX4_off (wsV RX4 140 RX4 yX4_areBeside wsX4_areBeside) := goodIn_app (goodIn_of _ (by decide +kernel)) ggX4_off_X4_areBeside
set_option maxRecDepth 20000 in
theorem ggX4_off_X4_guess : GoodIn wsX4_off wsX4_guess := goodIn_r _ [20, 9, 3, 21, 22, 23, 24, 25, 26, 27, 28, 29, 30, 31, 32, 33, 34, 35, 36, 37, 38, 39, 40, 41, 42, 43, 44, 45, 46, 47, 48, 49, 50, 51, 52, 53, 54, 55, 56, 57, 58, 59, 60] (by decide +kernel) (by decide +kernel)
set_option maxRecDepth 20000 in
theorem gX4_off_X4_guess : GoodIn wsX4_off (wsV RX4 144 RX4 yX4_guess wsX4_guess) := goodIn_app (goodIn_of _ (by decide +kernel)) ggX4_off_X4_guess
theorem dX4_off_0 : decode cX4_off 0 = .ok (.ldc 96, 2) := by decide +kernel
theorem dX4_off_2 : decode cX4_off 2 = .ok (.istore_n 3, 1) := by decide +kernel
theorem dX4_off_3 : decode cX4_off 3 = .ok (.iconst 0, 1) := by decide +kernel
theorem dX4_off_4 : decode cX4_off 4 = .ok (.istore 4, 2) := by decide +kernel
theorem dX4_off_6 : decode cX4_off 6 = .ok (.iload 4, 2) := by decide +kernel
theorem dX4_off_8 : decode cX4_off 8 = .ok (.aload_n 0, 1) := by decide +kernel
theorem dX4_off_9 : decode cX4_off 9 = .ok (.getfield 112, 3) := by decide +kernel
theorem dX4_off_12 : decode cX4_off 12 = .ok (.if_icmp .ge 70, 3) := by decide +kernel
theorem dX4_off_15 : decode cX4_off 15 = .ok (.aload_n 0, 1) := by decide +kernel
theorem dX4_off_16 : decode cX4_off 16 = .ok (.iload_n 1, 1) := by decide +kernel
theorem dX4_off_17 : decode cX4_off 17 = .ok (.iload 4, 2) := by decide +kernel
theorem dX4_off_19 : decode cX4_off 19 = .ok (.invokevirtual 140, 3) := by decide +kernel
theorem dX4_off_22 : decode cX4_off 22 = .ok (.ifCond .eq 54, 3) := by decide +kernel
theorem dX4_off_25 : decode cX4_off 25 = .ok (.aload_n 0, 1) := by decide +kernel
theorem dX4_off_26 : decode cX4_off 26 = .ok (.iload_n 1, 1) := by decide +kernel
theorem dX4_off_27 : decode cX4_off 27 = .ok (.iload 4, 2) := by decide +kernel
theorem dX4_off_29 : decode cX4_off 29 = .ok (.invokevirtual 144, 3) := by decide +kernel
theorem dX4_off_32 : decode cX4_off 32 = .ok (.aload_n 0, 1) := by decide +kernel
theorem dX4_off_33 : decode cX4_off 33 = .ok (.getfield 22, 3) := by decide +kernel
theorem dX4_off_36 : decode cX4_off 36 = .ok (.iconst 4, 1) := by decide +kernel
theorem dX4_off_37 : decode cX4_off 37 = .ok (.iload_n 1, 1) := by decide +kernel
theorem dX4_off_38 : decode cX4_off 38 = .ok (.imul, 1) := by decide +kernel
theorem dX4_off_39 : decode cX4_off 39 = .ok (.iaload, 1) := by decide +kernel
theorem dX4_off_40 : decode cX4_off 40 = .ok (.isub, 1) := by decide +kernel
theorem dX4_off_41 : decode cX4_off 41 = .ok (.istore 5, 2) := by decide +kernel
theorem dX4_off_43 : decode cX4_off 43 = .ok (.iload_n 2, 1) := by decide +kernel
theorem dX4_off_44 : decode cX4_off 44 = .ok (.ifCond .eq 8, 3) := by decide +kernel
theorem dX4_off_47 : decode cX4_off 47 = .ok (.iload 5, 2) := by decide +kernel
theorem dX4_off_49 : decode cX4_off 49 = .ok (.goto 6, 3) := by decide +kernel
theorem dX4_off_52 : decode cX4_off 52 = .ok (.iload 5, 2) := by decide +kernel
theorem dX4_off_54 : decode cX4_off 54 = .ok (.ineg, 1) := by decide +kernel
theorem dX4_off_55 : decode cX4_off 55 = .ok (.istore 5, 2) := by decide +kernel
theorem dX4_off_57 : decode cX4_off 57 = .ok (.iload_n 3, 1) := by decide +kernel
theorem dX4_off_58 : decode cX4_off 58 = .ok (.ldc 96, 2) := by decide +kernel
theorem dX4_off_60 : decode cX4_off 60 = .ok (.if_icmp .eq 9, 3) := by decide +kernel
theorem dX4_off_63 : decode cX4_off 63 = .ok (.iload 5, 2) := by decide +kernel
theorem dX4_off_65 : decode cX4_off 65 = .ok (.iload_n 3, 1) := by decide +kernel
theorem dX4_off_66 : decode cX4_off 66 = .ok (.if_icmp .le 8, 3) := by decide +kernel
theorem dX4_off_69 : decode cX4_off 69 = .ok (.iload 5, 2) := by decide +kernel
theorem dX4_off_71 : decode cX4_off 71 = .ok (.goto 4, 3) := by decide +kernel
theorem dX4_off_74 : decode cX4_off 74 = .ok (.iload_n 3, 1) := by decide +kernel
theorem dX4_off_75 : decode cX4_off 75 = .ok (.istore_n 3, 1) := by decide +kernel
theorem dX4_off_76 : decode cX4_off 76 = .ok (.iinc 4 1, 3) := by decide +kernel
theorem dX4_off_79 : decode cX4_off 79 = .ok (.goto (-73), 3) := by decide +kernel
theorem dX4_off_82 : decode cX4_off 82 = .ok (.iload_n 3, 1) := by decide +kernel
theorem dX4_off_83 : decode cX4_off 83 = .ok (.ireturn, 1) := by decide +kernel
theorem dX4_firstOf_0 : decode cX4_firstOf 0 = .ok (.iload_n 1, 1) := by decide +kernel
theorem dX4_firstOf_1 : decode cX4_firstOf 1 = .ok (.iload_n 2, 1) := by decide +kernel
theorem dX4_firstOf_2 : decode cX4_firstOf 2 = .ok (.aload_n 0, 1) := by decide +kernel
theorem dX4_firstOf_3 : decode cX4_firstOf 3 = .ok (.getfield 32, 3) := by decide +kernel
theorem dX4_firstOf_6 : decode cX4_firstOf 6 = .ok (.imul, 1) := by decide +kernel
theorem dX4_firstOf_7 : decode cX4_firstOf 7 = .ok (.if_icmp .gt 7, 3) := by decide +kernel
theorem dX4_firstOf_10 : decode cX4_firstOf 10 = .ok (.iload_n 2, 1) := by decide +kernel
theorem dX4_firstOf_11 : decode cX4_firstOf 11 = .ok (.goto 16, 3) := by decide +kernel
end
section
theorem dX4_firstOf_14 : decode cX4_firstOf 14 = .ok (.iload_n 1, 1) := by decide +kernel
theorem dX4_firstOf_15 : decode cX4_firstOf 15 = .ok (.aload_n 0, 1) := by decide +kernel
theorem dX4_firstOf_16 : decode cX4_firstOf 16 = .ok (.getfield 32, 3) := by decide +kernel
theorem dX4_firstOf_19 : decode cX4_firstOf 19 = .ok (.iadd, 1) := by decide +kernel
theorem dX4_firstOf_20 : decode cX4_firstOf 20 = .ok (.iconst 1, 1) := by decide +kernel
theorem dX4_firstOf_21 : decode cX4_firstOf 21 = .ok (.isub, 1) := by decide +kernel
theorem dX4_firstOf_22 : decode cX4_firstOf 22 = .ok (.aload_n 0, 1) := by decide +kernel
theorem dX4_firstOf_23 : decode cX4_firstOf 23 = .ok (.getfield 32, 3) := by decide +kernel
theorem dX4_firstOf_26 : decode cX4_firstOf 26 = .ok (.idiv, 1) := by decide +kernel
theorem dX4_firstOf_27 : decode cX4_firstOf 27 = .ok (.istore_n 3, 1) := by decide +kernel
theorem dX4_firstOf_28 : decode cX4_firstOf 28 = .ok (.iload_n 3, 1) := by decide +kernel
theorem dX4_firstOf_29 : decode cX4_firstOf 29 = .ok (.iconst 2, 1) := by decide +kernel
theorem dX4_firstOf_30 : decode cX4_firstOf 30 = .ok (.irem, 1) := by decide +kernel
theorem dX4_firstOf_31 : decode cX4_firstOf 31 = .ok (.iload_n 2, 1) := by decide +kernel
theorem dX4_firstOf_32 : decode cX4_firstOf 32 = .ok (.iconst 2, 1) := by decide +kernel
theorem dX4_firstOf_33 : decode cX4_firstOf 33 = .ok (.irem, 1) := by decide +kernel
theorem dX4_firstOf_34 : decode cX4_firstOf 34 = .ok (.if_icmp .ne 7, 3) := by decide +kernel
theorem dX4_firstOf_37 : decode cX4_firstOf 37 = .ok (.iload_n 3, 1) := by decide +kernel
theorem dX4_firstOf_38 : decode cX4_firstOf 38 = .ok (.goto 6, 3) := by decide +kernel
theorem dX4_firstOf_41 : decode cX4_firstOf 41 = .ok (.iload_n 3, 1) := by decide +kernel
theorem dX4_firstOf_42 : decode cX4_firstOf 42 = .ok (.iconst 1, 1) := by decide +kernel
theorem dX4_firstOf_43 : decode cX4_firstOf 43 = .ok (.iadd, 1) := by decide +kernel
theorem dX4_firstOf_44 : decode cX4_firstOf 44 = .ok (.ireturn, 1) := by decide +kernel
set_option maxRecDepth 20000 in
theorem ggX4_trigger_X4_firstOf : GoodIn wsX4_trigger wsX4_firstOf := goodIn_r _ [7, 2, 8, 9, 10, 11, 12, 13, 14, 15, 16, 17, 18, 19, 20, 21, 22, 23, 24, 25, 26, 27, 28, 29, 30, 31, 32, 33, 34, 35, 36, 37, 38, 39, 40, 41, 42, 43, 44, 45, 46] (by decide +kernel) (by decide +kernel)
set_option maxRecDepth 20000 in
theorem gX4_trigger_X4_firstOf : GoodIn wsX4_trigger (wsV RX4 148 RX4 yX4_firstOf wsX4_firstOf) := goodIn_app (goodIn_of _ (by decide +kernel)) ggX4_trigger_X4_firstOf
theorem dX4_trigger_0 : decode cX4_trigger 0 = .ok (.iload_n 1, 1) := by decide +kernel
theorem dX4_trigger_1 : decode cX4_trigger 1 = .ok (.ldc 96, 2) := by decide +kernel
theorem dX4_trigger_3 : decode cX4_trigger 3 = .ok (.if_icmp .ne 6, 3) := by decide +kernel
theorem dX4_trigger_6 : decode cX4_trigger 6 = .ok (.ldc 96, 2) := by decide +kernel
theorem dX4_trigger_8 : decode cX4_trigger 8 = .ok (.ireturn, 1) := by decide +kernel
theorem dX4_trigger_9 : decode cX4_trigger 9 = .ok (.aload_n 0, 1) := by decide +kernel
theorem dX4_trigger_10 : decode cX4_trigger 10 = .ok (.iload_n 1, 1) := by decide +kernel
theorem dX4_trigger_11 : decode cX4_trigger 11 = .ok (.iload_n 3, 1) := by decide +kernel
theorem dX4_trigger_12 : decode cX4_trigger 12 = .ok (.invokevirtual 148, 3) := by decide +kernel
theorem dX4_trigger_15 : decode cX4_trigger 15 = .ok (.istore 4, 2) := by decide +kernel
theorem dX4_trigger_17 : decode cX4_trigger 17 = .ok (.iload 4, 2) := by decide +kernel
theorem dX4_trigger_19 : decode cX4_trigger 19 = .ok (.aload_n 0, 1) := by decide +kernel
theorem dX4_trigger_20 : decode cX4_trigger 20 = .ok (.getfield 32, 3) := by decide +kernel
theorem dX4_trigger_23 : decode cX4_trigger 23 = .ok (.imul, 1) := by decide +kernel
theorem dX4_trigger_24 : decode cX4_trigger 24 = .ok (.iload_n 2, 1) := by decide +kernel
theorem dX4_trigger_25 : decode cX4_trigger 25 = .ok (.if_icmp .gt 8, 3) := by decide +kernel
theorem dX4_trigger_28 : decode cX4_trigger 28 = .ok (.iload 4, 2) := by decide +kernel
theorem dX4_trigger_30 : decode cX4_trigger 30 = .ok (.goto 5, 3) := by decide +kernel
theorem dX4_trigger_33 : decode cX4_trigger 33 = .ok (.ldc 96, 2) := by decide +kernel
theorem dX4_trigger_35 : decode cX4_trigger 35 = .ok (.ireturn, 1) := by decide +kernel
set_option maxRecDepth 20000 in
theorem ggX4_upOf_X4_off : GoodIn wsX4_upOf wsX4_off := goodIn_r _ [6, 1, 7, 8, 9, 10, 11, 5, 12, 13, 14, 15, 16, 17, 18, 19, 20, 21, 22, 23, 24, 25, 35, 36, 37, 38, 39, 40, 41, 42, 43, 44, 45, 46, 47, 48, 49, 50, 51, 52, 53, 54, 55, 56, 57, 58, 59, 60, 61, 62, 63, 64, 65, 66, 67, 68, 69, 70, 71, 72, 73] (by decide +kernel) (by decide +kernel)
set_option maxRecDepth 20000 in
theorem gX4_upOf_X4_off : GoodIn wsX4_upOf (wsV RX4 151 RX4 yX4_off wsX4_off) := goodIn_app (goodIn_of _ (by decide +kernel)) ggX4_upOf_X4_off
set_option maxRecDepth 20000 in
theorem ggX4_upOf_X4_trigger : GoodIn wsX4_upOf wsX4_trigger := goodIn_r _ [29, 1, 30, 31, 32, 33, 5, 34, 35, 36, 37, 38, 39, 40, 41, 42, 43, 44, 45, 46, 47, 48, 49, 50, 51, 52, 53, 54, 55, 56, 57, 58, 59, 60, 61, 62, 63, 64, 65, 66, 67, 68, 69, 70, 71, 72, 73] (by decide +kernel) (by decide +kernel)
set_option maxRecDepth 20000 in
theorem gX4_upOf_X4_trigger : GoodIn wsX4_upOf (wsV RX4 155 RX4 yX4_trigger wsX4_trigger) := goodIn_app (goodIn_of _ (by decide +kernel)) ggX4_upOf_X4_trigger
theorem dX4_upOf_0 : decode cX4_upOf 0 = .ok (.aload_n 0, 1) := by decide +kernel
theorem dX4_upOf_1 : decode cX4_upOf 1 = .ok (.aload_n 0, 1) := by decide +kernel
theorem dX4_upOf_2 : decode cX4_upOf 2 = .ok (.iload_n 1, 1) := by decide +kernel
theorem dX4_upOf_3 : decode cX4_upOf 3 = .ok (.iconst 0, 1) := by decide +kernel
theorem dX4_upOf_4 : decode cX4_upOf 4 = .ok (.invokevirtual 151, 3) := by decide +kernel
theorem dX4_upOf_7 : decode cX4_upOf 7 = .ok (.aload_n 0, 1) := by decide +kernel
theorem dX4_upOf_8 : decode cX4_upOf 8 = .ok (.iload_n 1, 1) := by decide +kernel
theorem dX4_upOf_9 : decode cX4_upOf 9 = .ok (.iconst 1, 1) := by decide +kernel
theorem dX4_upOf_10 : decode cX4_upOf 10 = .ok (.invokevirtual 151, 3) := by decide +kernel
theorem dX4_upOf_13 : decode cX4_upOf 13 = .ok (.iconst 1, 1) := by decide +kernel
theorem dX4_upOf_14 : decode cX4_upOf 14 = .ok (.invokevirtual 155, 3) := by decide +kernel
theorem dX4_upOf_17 : decode cX4_upOf 17 = .ok (.istore_n 2, 1) := by decide +kernel
theorem dX4_upOf_18 : decode cX4_upOf 18 = .ok (.iload_n 2, 1) := by decide +kernel
theorem dX4_upOf_19 : decode cX4_upOf 19 = .ok (.ldc 96, 2) := by decide +kernel
theorem dX4_upOf_21 : decode cX4_upOf 21 = .ok (.if_icmp .ne 8, 3) := by decide +kernel
theorem dX4_upOf_24 : decode cX4_upOf 24 = .ok (.ldc 96, 2) := by decide +kernel
theorem dX4_upOf_26 : decode cX4_upOf 26 = .ok (.goto 8, 3) := by decide +kernel
theorem dX4_upOf_29 : decode cX4_upOf 29 = .ok (.iload_n 2, 1) := by decide +kernel
theorem dX4_upOf_30 : decode cX4_upOf 30 = .ok (.iconst 1, 1) := by decide +kernel
theorem dX4_upOf_31 : decode cX4_upOf 31 = .ok (.isub, 1) := by decide +kernel
theorem dX4_upOf_32 : decode cX4_upOf 32 = .ok (.iconst 2, 1) := by decide +kernel
theorem dX4_upOf_33 : decode cX4_upOf 33 = .ok (.idiv, 1) := by decide +kernel
theorem dX4_upOf_34 : decode cX4_upOf 34 = .ok (.ireturn, 1) := by decide +kernel
set_option maxRecDepth 20000 in
theorem ggX4_downOf_X4_off : GoodIn wsX4_downOf wsX4_off := goodIn_r _ [6, 1, 7, 8, 9, 10, 11, 5, 12, 13, 14, 15, 16, 17, 18, 19, 20, 21, 22, 23, 24, 25, 35, 36, 37, 38, 39, 40, 41, 42, 43, 44, 45, 46, 47, 48, 49, 50, 51, 52, 53, 54, 55, 56, 57, 58, 59, 60, 61, 62, 63, 64, 65, 66, 67, 68, 69, 70, 71, 72, 73] (by decide +kernel) (by decide +kernel)
set_option maxRecDepth 20000 in
theorem gX4_downOf_X4_off : GoodIn wsX4_downOf (wsV RX4 151 RX4 yX4_off wsX4_off) := goodIn_app (goodIn_of _ (by decide +kernel)) ggX4_downOf_X4_off
set_option maxRecDepth 20000 in
theorem ggX4_downOf_X4_trigger : GoodIn wsX4_downOf wsX4_trigger := goodIn_r _ [29, 1, 30, 31, 32, 33, 5, 34, 35, 36, 37, 38, 39, 40, 41, 42, 43, 44, 45, 46, 47, 48, 49, 50, 51, 52, 53, 54, 55, 56, 57, 58, 59, 60, 61, 62, 63, 64, 65, 66, 67, 68, 69, 70, 71, 72, 73] (by decide +kernel) (by decide +kernel)
set_option maxRecDepth 20000 in
theorem gX4_downOf_X4_trigger : GoodIn wsX4_downOf (wsV RX4 155 RX4 yX4_trigger wsX4_trigger) := goodIn_app (goodIn_of _ (by decide +kernel)) ggX4_downOf_X4_trigger
theorem dX4_downOf_0 : decode cX4_downOf 0 = .ok (.aload_n 0, 1) := by decide +kernel
theorem dX4_downOf_1 : decode cX4_downOf 1 = .ok (.aload_n 0, 1) := by decide +kernel
theorem dX4_downOf_2 : decode cX4_downOf 2 = .ok (.iload_n 1, 1) := by decide +kernel
theorem dX4_downOf_3 : decode cX4_downOf 3 = .ok (.iconst 1, 1) := by decide +kernel
theorem dX4_downOf_4 : decode cX4_downOf 4 = .ok (.invokevirtual 151, 3) := by decide +kernel
theorem dX4_downOf_7 : decode cX4_downOf 7 = .ok (.aload_n 0, 1) := by decide +kernel
theorem dX4_downOf_8 : decode cX4_downOf 8 = .ok (.iload_n 1, 1) := by decide +kernel
theorem dX4_downOf_9 : decode cX4_downOf 9 = .ok (.iconst 0, 1) := by decide +kernel
theorem dX4_downOf_10 : decode cX4_downOf 10 = .ok (.invokevirtual 151, 3) := by decide +kernel
theorem dX4_downOf_13 : decode cX4_downOf 13 = .ok (.iconst 2, 1) := by decide +kernel
theorem dX4_downOf_14 : decode cX4_downOf 14 = .ok (.invokevirtual 155, 3) := by decide +kernel
theorem dX4_downOf_17 : decode cX4_downOf 17 = .ok (.istore_n 2, 1) := by decide +kernel
theorem dX4_downOf_18 : decode cX4_downOf 18 = .ok (.iload_n 2, 1) := by decide +kernel
theorem dX4_downOf_19 : decode cX4_downOf 19 = .ok (.ldc 96, 2) := by decide +kernel
theorem dX4_downOf_21 : decode cX4_downOf 21 = .ok (.if_icmp .ne 8, 3) := by decide +kernel
theorem dX4_downOf_24 : decode cX4_downOf 24 = .ok (.ldc 96, 2) := by decide +kernel
theorem dX4_downOf_26 : decode cX4_downOf 26 = .ok (.goto 6, 3) := by decide +kernel
theorem dX4_downOf_29 : decode cX4_downOf 29 = .ok (.iload_n 2, 1) := by decide +kernel
theorem dX4_downOf_30 : decode cX4_downOf 30 = .ok (.iconst 2, 1) := by decide +kernel
theorem dX4_downOf_31 : decode cX4_downOf 31 = .ok (.idiv, 1) := by decide +kernel
theorem dX4_downOf_32 : decode cX4_downOf 32 = .ok (.ireturn, 1) := by decide +kernel
set_option maxRecDepth 20000 in
theorem ggX4_tick_X4_upOf : GoodIn wsX4_tick wsX4_upOf := goodIn_r _ [13, 3, 14, 15, 16, 12, 17, 1, 6, 18, 19, 20, 21, 22, 23, 24, 25, 26, 27, 28, 29, 30, 31, 32, 33, 34, 35, 36, 37, 38, 39, 40, 41, 42, 43, 48, 49, 50, 51, 52, 53, 54, 55, 56, 57, 58, 59, 60, 61, 62, 63, 64, 65, 66, 67, 68, 69, 70, 71, 72, 73, 74, 75, 76, 77, 78, 79, 80, 81, 82, 83, 84, 85, 86] (by decide +kernel) (by decide +kernel)
set_option maxRecDepth 20000 in
theorem gX4_tick_X4_upOf : GoodIn wsX4_tick (wsV RX4 159 RX4 yX4_upOf wsX4_upOf) := goodIn_app (goodIn_of _ (by decide +kernel)) ggX4_tick_X4_upOf
set_option maxRecDepth 20000 in
theorem ggX4_tick_X4_downOf : GoodIn wsX4_tick wsX4_downOf := goodIn_r _ [47, 3, 14, 15, 16, 12, 17, 1, 6, 18, 19, 20, 21, 22, 23, 24, 25, 26, 27, 28, 29, 30, 31, 32, 33, 34, 35, 36, 37, 38, 39, 40, 41, 42, 43, 48, 49, 50, 51, 52, 53, 54, 55, 56, 57, 58, 59, 60, 61, 62, 63, 64, 65, 66, 67, 68, 69, 70, 71, 72, 73, 74, 75, 76, 77, 78, 79, 80, 81, 82, 83, 84, 85, 86] (by decide +kernel) (by decide +kernel)
set_option maxRecDepth 20000 in
theorem gX4_tick_X4_downOf : GoodIn wsX4_tick (wsV RX4 163 RX4 yX4_downOf wsX4_downOf) := goodIn_app (goodIn_of _ (by decide +kernel)) ggX4_tick_X4_downOf
theorem dX4_tick_0 : decode cX4_tick 0 = .ok (.iconst 0, 1) := by decide +kernel
theorem dX4_tick_1 : decode cX4_tick 1 = .ok (.istore_n 1, 1) := by decide +kernel
theorem dX4_tick_2 : decode cX4_tick 2 = .ok (.iload_n 1, 1) := by decide +kernel
theorem dX4_tick_3 : decode cX4_tick 3 = .ok (.aload_n 0, 1) := by decide +kernel
theorem dX4_tick_4 : decode cX4_tick 4 = .ok (.getfield 112, 3) := by decide +kernel
theorem dX4_tick_7 : decode cX4_tick 7 = .ok (.if_icmp .ge 44, 3) := by decide +kernel
theorem dX4_tick_10 : decode cX4_tick 10 = .ok (.aload_n 0, 1) := by decide +kernel
theorem dX4_tick_11 : decode cX4_tick 11 = .ok (.getfield 42, 3) := by decide +kernel
theorem dX4_tick_14 : decode cX4_tick 14 = .ok (.iload_n 1, 1) := by decide +kernel
theorem dX4_tick_15 : decode cX4_tick 15 = .ok (.aload_n 0, 1) := by decide +kernel
theorem dX4_tick_16 : decode cX4_tick 16 = .ok (.iload_n 1, 1) := by decide +kernel
theorem dX4_tick_17 : decode cX4_tick 17 = .ok (.invokevirtual 159, 3) := by decide +kernel
theorem dX4_tick_20 : decode cX4_tick 20 = .ok (.ldc 96, 2) := by decide +kernel
theorem dX4_tick_22 : decode cX4_tick 22 = .ok (.if_icmp .eq 7, 3) := by decide +kernel
theorem dX4_tick_25 : decode cX4_tick 25 = .ok (.iconst 1, 1) := by decide +kernel
theorem dX4_tick_26 : decode cX4_tick 26 = .ok (.goto 18, 3) := by decide +kernel
theorem dX4_tick_29 : decode cX4_tick 29 = .ok (.aload_n 0, 1) := by decide +kernel
theorem dX4_tick_30 : decode cX4_tick 30 = .ok (.iload_n 1, 1) := by decide +kernel
theorem dX4_tick_31 : decode cX4_tick 31 = .ok (.invokevirtual 163, 3) := by decide +kernel
theorem dX4_tick_34 : decode cX4_tick 34 = .ok (.ldc 96, 2) := by decide +kernel
theorem dX4_tick_36 : decode cX4_tick 36 = .ok (.if_icmp .eq 7, 3) := by decide +kernel
theorem dX4_tick_39 : decode cX4_tick 39 = .ok (.iconst (-1), 1) := by decide +kernel
theorem dX4_tick_40 : decode cX4_tick 40 = .ok (.goto 4, 3) := by decide +kernel
theorem dX4_tick_43 : decode cX4_tick 43 = .ok (.iconst 0, 1) := by decide +kernel
theorem dX4_tick_44 : decode cX4_tick 44 = .ok (.iastore, 1) := by decide +kernel
theorem dX4_tick_45 : decode cX4_tick 45 = .ok (.iinc 1 1, 3) := by decide +kernel
theorem dX4_tick_48 : decode cX4_tick 48 = .ok (.goto (-46), 3) := by decide +kernel
theorem dX4_tick_51 : decode cX4_tick 51 = .ok (.iconst 0, 1) := by decide +kernel
theorem dX4_tick_52 : decode cX4_tick 52 = .ok (.istore_n 1, 1) := by decide +kernel
theorem dX4_tick_53 : decode cX4_tick 53 = .ok (.iload_n 1, 1) := by decide +kernel
theorem dX4_tick_54 : decode cX4_tick 54 = .ok (.aload_n 0, 1) := by decide +kernel
theorem dX4_tick_55 : decode cX4_tick 55 = .ok (.getfield 112, 3) := by decide +kernel
theorem dX4_tick_58 : decode cX4_tick 58 = .ok (.if_icmp .ge 140, 3) := by decide +kernel
theorem dX4_tick_61 : decode cX4_tick 61 = .ok (.aload_n 0, 1) := by decide +kernel
theorem dX4_tick_62 : decode cX4_tick 62 = .ok (.getfield 25, 3) := by decide +kernel
theorem dX4_tick_65 : decode cX4_tick 65 = .ok (.iload_n 1, 1) := by decide +kernel
theorem dX4_tick_66 : decode cX4_tick 66 = .ok (.aload_n 0, 1) := by decide +kernel
theorem dX4_tick_67 : decode cX4_tick 67 = .ok (.getfield 42, 3) := by decide +kernel
theorem dX4_tick_70 : decode cX4_tick 70 = .ok (.iload_n 1, 1) := by decide +kernel
theorem dX4_tick_71 : decode cX4_tick 71 = .ok (.iaload, 1) := by decide +kernel
theorem dX4_tick_72 : decode cX4_tick 72 = .ok (.iconst 1, 1) := by decide +kernel
theorem dX4_tick_73 : decode cX4_tick 73 = .ok (.if_icmp .eq 21, 3) := by decide +kernel
theorem dX4_tick_76 : decode cX4_tick 76 = .ok (.aload_n 0, 1) := by decide +kernel
theorem dX4_tick_77 : decode cX4_tick 77 = .ok (.getfield 42, 3) := by decide +kernel
theorem dX4_tick_80 : decode cX4_tick 80 = .ok (.iload_n 1, 1) := by decide +kernel
theorem dX4_tick_81 : decode cX4_tick 81 = .ok (.iaload, 1) := by decide +kernel
theorem dX4_tick_82 : decode cX4_tick 82 = .ok (.ifCond .ne 16, 3) := by decide +kernel
theorem dX4_tick_85 : decode cX4_tick 85 = .ok (.aload_n 0, 1) := by decide +kernel
theorem dX4_tick_86 : decode cX4_tick 86 = .ok (.getfield 25, 3) := by decide +kernel
theorem dX4_tick_89 : decode cX4_tick 89 = .ok (.iload_n 1, 1) := by decide +kernel
theorem dX4_tick_90 : decode cX4_tick 90 = .ok (.baload, 1) := by decide +kernel
theorem dX4_tick_91 : decode cX4_tick 91 = .ok (.ifCond .eq 7, 3) := by decide +kernel
theorem dX4_tick_94 : decode cX4_tick 94 = .ok (.iconst 1, 1) := by decide +kernel
theorem dX4_tick_95 : decode cX4_tick 95 = .ok (.goto 4, 3) := by decide +kernel
theorem dX4_tick_98 : decode cX4_tick 98 = .ok (.iconst 0, 1) := by decide +kernel
theorem dX4_tick_99 : decode cX4_tick 99 = .ok (.bastore, 1) := by decide +kernel
theorem dX4_tick_100 : decode cX4_tick 100 = .ok (.aload_n 0, 1) := by decide +kernel
theorem dX4_tick_101 : decode cX4_tick 101 = .ok (.getfield 29, 3) := by decide +kernel
theorem dX4_tick_104 : decode cX4_tick 104 = .ok (.iload_n 1, 1) := by decide +kernel
theorem dX4_tick_105 : decode cX4_tick 105 = .ok (.dup2, 1) := by decide +kernel
theorem dX4_tick_106 : decode cX4_tick 106 = .ok (.iaload, 1) := by decide +kernel
theorem dX4_tick_107 : decode cX4_tick 107 = .ok (.aload_n 0, 1) := by decide +kernel
theorem dX4_tick_108 : decode cX4_tick 108 = .ok (.getfield 25, 3) := by decide +kernel
theorem dX4_tick_111 : decode cX4_tick 111 = .ok (.iload_n 1, 1) := by decide +kernel
theorem dX4_tick_112 : decode cX4_tick 112 = .ok (.baload, 1) := by decide +kernel
theorem dX4_tick_113 : decode cX4_tick 113 = .ok (.ifCond .eq 7, 3) := by decide +kernel
theorem dX4_tick_116 : decode cX4_tick 116 = .ok (.iconst 1, 1) := by decide +kernel
theorem dX4_tick_117 : decode cX4_tick 117 = .ok (.goto 4, 3) := by decide +kernel
theorem dX4_tick_120 : decode cX4_tick 120 = .ok (.iconst 0, 1) := by decide +kernel
theorem dX4_tick_121 : decode cX4_tick 121 = .ok (.iadd, 1) := by decide +kernel
theorem dX4_tick_122 : decode cX4_tick 122 = .ok (.iastore, 1) := by decide +kernel
theorem dX4_tick_123 : decode cX4_tick 123 = .ok (.iconst 3, 1) := by decide +kernel
theorem dX4_tick_124 : decode cX4_tick 124 = .ok (.istore_n 2, 1) := by decide +kernel
theorem dX4_tick_125 : decode cX4_tick 125 = .ok (.iload_n 2, 1) := by decide +kernel
theorem dX4_tick_126 : decode cX4_tick 126 = .ok (.ifCond .le 31, 3) := by decide +kernel
theorem dX4_tick_129 : decode cX4_tick 129 = .ok (.aload_n 0, 1) := by decide +kernel
theorem dX4_tick_130 : decode cX4_tick 130 = .ok (.getfield 22, 3) := by decide +kernel
theorem dX4_tick_133 : decode cX4_tick 133 = .ok (.iconst 4, 1) := by decide +kernel
theorem dX4_tick_134 : decode cX4_tick 134 = .ok (.iload_n 1, 1) := by decide +kernel
theorem dX4_tick_135 : decode cX4_tick 135 = .ok (.imul, 1) := by decide +kernel
theorem dX4_tick_136 : decode cX4_tick 136 = .ok (.iload_n 2, 1) := by decide +kernel
theorem dX4_tick_137 : decode cX4_tick 137 = .ok (.iadd, 1) := by decide +kernel
theorem dX4_tick_138 : decode cX4_tick 138 = .ok (.aload_n 0, 1) := by decide +kernel
theorem dX4_tick_139 : decode cX4_tick 139 = .ok (.getfield 22, 3) := by decide +kernel
theorem dX4_tick_142 : decode cX4_tick 142 = .ok (.iconst 4, 1) := by decide +kernel
theorem dX4_tick_143 : decode cX4_tick 143 = .ok (.iload_n 1, 1) := by decide +kernel
theorem dX4_tick_144 : decode cX4_tick 144 = .ok (.imul, 1) := by decide +kernel
theorem dX4_tick_145 : decode cX4_tick 145 = .ok (.iload_n 2, 1) := by decide +kernel
theorem dX4_tick_146 : decode cX4_tick 146 = .ok (.iadd, 1) := by decide +kernel
theorem dX4_tick_147 : decode cX4_tick 147 = .ok (.iconst 1, 1) := by decide +kernel
theorem dX4_tick_148 : decode cX4_tick 148 = .ok (.isub, 1) := by decide +kernel
theorem dX4_tick_149 : decode cX4_tick 149 = .ok (.iaload, 1) := by decide +kernel
theorem dX4_tick_150 : decode cX4_tick 150 = .ok (.iastore, 1) := by decide +kernel
theorem dX4_tick_151 : decode cX4_tick 151 = .ok (.iinc 2 (-1), 3) := by decide +kernel
theorem dX4_tick_154 : decode cX4_tick 154 = .ok (.goto (-29), 3) := by decide +kernel
theorem dX4_tick_157 : decode cX4_tick 157 = .ok (.aload_n 0, 1) := by decide +kernel
theorem dX4_tick_158 : decode cX4_tick 158 = .ok (.getfield 22, 3) := by decide +kernel
theorem dX4_tick_161 : decode cX4_tick 161 = .ok (.iconst 4, 1) := by decide +kernel
theorem dX4_tick_162 : decode cX4_tick 162 = .ok (.iload_n 1, 1) := by decide +kernel
theorem dX4_tick_163 : decode cX4_tick 163 = .ok (.imul, 1) := by decide +kernel
theorem dX4_tick_164 : decode cX4_tick 164 = .ok (.dup2, 1) := by decide +kernel
theorem dX4_tick_165 : decode cX4_tick 165 = .ok (.iaload, 1) := by decide +kernel
theorem dX4_tick_166 : decode cX4_tick 166 = .ok (.aload_n 0, 1) := by decide +kernel
theorem dX4_tick_167 : decode cX4_tick 167 = .ok (.getfield 19, 3) := by decide +kernel
theorem dX4_tick_170 : decode cX4_tick 170 = .ok (.iload_n 1, 1) := by decide +kernel
theorem dX4_tick_171 : decode cX4_tick 171 = .ok (.iaload, 1) := by decide +kernel
theorem dX4_tick_172 : decode cX4_tick 172 = .ok (.aload_n 0, 1) := by decide +kernel
theorem dX4_tick_173 : decode cX4_tick 173 = .ok (.getfield 25, 3) := by decide +kernel
theorem dX4_tick_176 : decode cX4_tick 176 = .ok (.iload_n 1, 1) := by decide +kernel
theorem dX4_tick_177 : decode cX4_tick 177 = .ok (.baload, 1) := by decide +kernel
theorem dX4_tick_178 : decode cX4_tick 178 = .ok (.ifCond .eq 10, 3) := by decide +kernel
theorem dX4_tick_181 : decode cX4_tick 181 = .ok (.aload_n 0, 1) := by decide +kernel
theorem dX4_tick_182 : decode cX4_tick 182 = .ok (.getfield 36, 3) := by decide +kernel
theorem dX4_tick_185 : decode cX4_tick 185 = .ok (.goto 4, 3) := by decide +kernel
theorem dX4_tick_188 : decode cX4_tick 188 = .ok (.iconst 0, 1) := by decide +kernel
theorem dX4_tick_189 : decode cX4_tick 189 = .ok (.iadd, 1) := by decide +kernel
theorem dX4_tick_190 : decode cX4_tick 190 = .ok (.iadd, 1) := by decide +kernel
theorem dX4_tick_191 : decode cX4_tick 191 = .ok (.iastore, 1) := by decide +kernel
theorem dX4_tick_192 : decode cX4_tick 192 = .ok (.iinc 1 1, 3) := by decide +kernel
theorem dX4_tick_195 : decode cX4_tick 195 = .ok (.goto (-142), 3) := by decide +kernel
theorem dX4_tick_198 : decode cX4_tick 198 = .ok (.return_, 1) := by decide +kernel
set_option maxRecDepth 20000 in
theorem ggX4_go_X4_within : GoodIn wsX4_go wsX4_within := goodIn_r _ [10] (by decide +kernel) (by decide +kernel)
set_option maxRecDepth 20000 in
theorem gX4_go_X4_within : GoodIn wsX4_go (va_wsS RX4 75 yX4_within wsX4_within) := goodIn_app (goodIn_of _ (by decide +kernel)) ggX4_go_X4_within
set_option maxRecDepth 20000 in
theorem ggX4_go_X4_tick : GoodIn wsX4_go wsX4_tick := goodIn_r _ [14, 2, 15, 16, 17, 18, 19, 20, 21, 22, 23, 24, 9, 25, 26, 27, 28, 29, 30, 31, 32, 33, 34, 35, 36, 37, 38, 7, 8, 10, 39, 40, 41, 42, 43, 44, 45, 46, 47, 48, 49, 50, 51, 52, 53, 54, 55, 56, 65, 66, 67, 68, 69, 70, 71, 72, 73, 74, 75, 76, 77, 78, 79, 80, 81, 82, 83, 84, 85, 86, 87, 88, 89, 90, 91, 92, 93, 94, 95, 96, 97, 98, 99, 100, 101, 102, 103] (by decide +kernel) (by decide +kernel)
set_option maxRecDepth 20000 in
theorem gX4_go_X4_tick : GoodIn wsX4_go (wsV RX4 166 RX4 yX4_tick wsX4_tick) := goodIn_app (goodIn_of _ (by decide +kernel)) ggX4_go_X4_tick
set_option maxRecDepth 20000 in
theorem ggX4_go_X4_local : GoodIn wsX4_go wsX4_local := goodIn_r _ [60, 2, 30, 31, 32, 9, 33, 34, 16, 35, 36, 37, 38, 7, 8, 10, 61, 62, 63, 64, 19, 65, 66, 67, 68, 69, 70, 71, 72, 73, 74, 75, 76, 77, 78, 79, 80, 81, 82, 83, 84, 85, 86, 87, 88, 89, 90, 91, 92, 93, 94, 95, 96, 97, 98, 99, 100, 101, 102, 103] (by decide +kernel) (by decide +kernel)
set_option maxRecDepth 20000 in
theorem gX4_go_X4_local : GoodIn wsX4_go (wsV RX4 172 RX4 yX4_local wsX4_local) := goodIn_app (goodIn_of _ (by decide +kernel)) ggX4_go_X4_local
theorem dX4_go_0 : decode cX4_go 0 = .ok (.iload_n 1, 1) := by decide +kernel
theorem dX4_go_1 : decode cX4_go 1 = .ok (.iconst 1, 1) := by decide +kernel
theorem dX4_go_2 : decode cX4_go 2 = .ok (.bipush 100, 2) := by decide +kernel
theorem dX4_go_4 : decode cX4_go 4 = .ok (.invokestatic 75, 3) := by decide +kernel
theorem dX4_go_7 : decode cX4_go 7 = .ok (.ifCond .ne 6, 3) := by decide +kernel
theorem dX4_go_10 : decode cX4_go 10 = .ok (.ldc 79, 2) := by decide +kernel
theorem dX4_go_12 : decode cX4_go 12 = .ok (.ireturn, 1) := by decide +kernel
theorem dX4_go_13 : decode cX4_go 13 = .ok (.aload_n 0, 1) := by decide +kernel
theorem dX4_go_14 : decode cX4_go 14 = .ok (.getfield 112, 3) := by decide +kernel
theorem dX4_go_17 : decode cX4_go 17 = .ok (.ifCond .eq 15, 3) := by decide +kernel
theorem dX4_go_20 : decode cX4_go 20 = .ok (.aload_n 0, 1) := by decide +kernel
theorem dX4_go_21 : decode cX4_go 21 = .ok (.getfield 122, 3) := by decide +kernel
theorem dX4_go_24 : decode cX4_go 24 = .ok (.iload_n 1, 1) := by decide +kernel
theorem dX4_go_25 : decode cX4_go 25 = .ok (.iadd, 1) := by decide +kernel
theorem dX4_go_26 : decode cX4_go 26 = .ok (.sipush 9000, 3) := by decide +kernel
theorem dX4_go_29 : decode cX4_go 29 = .ok (.if_icmp .le 6, 3) := by decide +kernel
theorem dX4_go_32 : decode cX4_go 32 = .ok (.ldc 111, 2) := by decide +kernel
theorem dX4_go_34 : decode cX4_go 34 = .ok (.ireturn, 1) := by decide +kernel
theorem dX4_go_35 : decode cX4_go 35 = .ok (.iconst 0, 1) := by decide +kernel
theorem dX4_go_36 : decode cX4_go 36 = .ok (.istore_n 2, 1) := by decide +kernel
theorem dX4_go_37 : decode cX4_go 37 = .ok (.iload_n 2, 1) := by decide +kernel
theorem dX4_go_38 : decode cX4_go 38 = .ok (.iload_n 1, 1) := by decide +kernel
theorem dX4_go_39 : decode cX4_go 39 = .ok (.if_icmp .ge 59, 3) := by decide +kernel
theorem dX4_go_42 : decode cX4_go 42 = .ok (.aload_n 0, 1) := by decide +kernel
theorem dX4_go_43 : decode cX4_go 43 = .ok (.invokevirtual 166, 3) := by decide +kernel
theorem dX4_go_46 : decode cX4_go 46 = .ok (.aload_n 0, 1) := by decide +kernel
theorem dX4_go_47 : decode cX4_go 47 = .ok (.dup, 1) := by decide +kernel
theorem dX4_go_48 : decode cX4_go 48 = .ok (.getfield 122, 3) := by decide +kernel
theorem dX4_go_51 : decode cX4_go 51 = .ok (.iconst 1, 1) := by decide +kernel
theorem dX4_go_52 : decode cX4_go 52 = .ok (.iadd, 1) := by decide +kernel
theorem dX4_go_53 : decode cX4_go 53 = .ok (.putfield 122, 3) := by decide +kernel
theorem dX4_go_56 : decode cX4_go 56 = .ok (.aload_n 0, 1) := by decide +kernel
theorem dX4_go_57 : decode cX4_go 57 = .ok (.dup, 1) := by decide +kernel
theorem dX4_go_58 : decode cX4_go 58 = .ok (.getfield 169, 3) := by decide +kernel
theorem dX4_go_61 : decode cX4_go 61 = .ok (.iconst 1, 1) := by decide +kernel
theorem dX4_go_62 : decode cX4_go 62 = .ok (.iadd, 1) := by decide +kernel
theorem dX4_go_63 : decode cX4_go 63 = .ok (.putfield 169, 3) := by decide +kernel
theorem dX4_go_66 : decode cX4_go 66 = .ok (.aload_n 0, 1) := by decide +kernel
theorem dX4_go_67 : decode cX4_go 67 = .ok (.aload_n 0, 1) := by decide +kernel
theorem dX4_go_68 : decode cX4_go 68 = .ok (.invokevirtual 172, 3) := by decide +kernel
theorem dX4_go_71 : decode cX4_go 71 = .ok (.aload_n 0, 1) := by decide +kernel
theorem dX4_go_72 : decode cX4_go 72 = .ok (.getfield 125, 3) := by decide +kernel
theorem dX4_go_75 : decode cX4_go 75 = .ok (.if_icmp .le 10, 3) := by decide +kernel
theorem dX4_go_78 : decode cX4_go 78 = .ok (.aload_n 0, 1) := by decide +kernel
theorem dX4_go_79 : decode cX4_go 79 = .ok (.invokevirtual 172, 3) := by decide +kernel
theorem dX4_go_82 : decode cX4_go 82 = .ok (.goto 7, 3) := by decide +kernel
theorem dX4_go_85 : decode cX4_go 85 = .ok (.aload_n 0, 1) := by decide +kernel
theorem dX4_go_86 : decode cX4_go 86 = .ok (.getfield 125, 3) := by decide +kernel
theorem dX4_go_89 : decode cX4_go 89 = .ok (.putfield 125, 3) := by decide +kernel
theorem dX4_go_92 : decode cX4_go 92 = .ok (.iinc 2 1, 3) := by decide +kernel
theorem dX4_go_95 : decode cX4_go 95 = .ok (.goto (-58), 3) := by decide +kernel
theorem dX4_go_98 : decode cX4_go 98 = .ok (.aload_n 0, 1) := by decide +kernel
theorem dX4_go_99 : decode cX4_go 99 = .ok (.invokevirtual 172, 3) := by decide +kernel
theorem dX4_go_102 : decode cX4_go 102 = .ok (.ireturn, 1) := by decide +kernel
theorem dX4_skewOf_0 : decode cX4_skewOf 0 = .ok (.aload_n 0, 1) := by decide +kernel
theorem dX4_skewOf_1 : decode cX4_skewOf 1 = .ok (.getfield 22, 3) := by decide +kernel
theorem dX4_skewOf_4 : decode cX4_skewOf 4 = .ok (.iconst 4, 1) := by decide +kernel
theorem dX4_skewOf_5 : decode cX4_skewOf 5 = .ok (.iload_n 1, 1) := by decide +kernel
theorem dX4_skewOf_6 : decode cX4_skewOf 6 = .ok (.imul, 1) := by decide +kernel
theorem dX4_skewOf_7 : decode cX4_skewOf 7 = .ok (.iaload, 1) := by decide +kernel
theorem dX4_skewOf_8 : decode cX4_skewOf 8 = .ok (.aload_n 0, 1) := by decide +kernel
theorem dX4_skewOf_9 : decode cX4_skewOf 9 = .ok (.getfield 22, 3) := by decide +kernel
theorem dX4_skewOf_12 : decode cX4_skewOf 12 = .ok (.iconst 4, 1) := by decide +kernel
theorem dX4_skewOf_13 : decode cX4_skewOf 13 = .ok (.iload_n 2, 1) := by decide +kernel
theorem dX4_skewOf_14 : decode cX4_skewOf 14 = .ok (.imul, 1) := by decide +kernel
theorem dX4_skewOf_15 : decode cX4_skewOf 15 = .ok (.iaload, 1) := by decide +kernel
theorem dX4_skewOf_16 : decode cX4_skewOf 16 = .ok (.isub, 1) := by decide +kernel
theorem dX4_skewOf_17 : decode cX4_skewOf 17 = .ok (.istore_n 3, 1) := by decide +kernel
theorem dX4_skewOf_18 : decode cX4_skewOf 18 = .ok (.iload_n 3, 1) := by decide +kernel
theorem dX4_skewOf_19 : decode cX4_skewOf 19 = .ok (.ifCond .ge 8, 3) := by decide +kernel
theorem dX4_skewOf_22 : decode cX4_skewOf 22 = .ok (.iload_n 3, 1) := by decide +kernel
theorem dX4_skewOf_23 : decode cX4_skewOf 23 = .ok (.ineg, 1) := by decide +kernel
theorem dX4_skewOf_24 : decode cX4_skewOf 24 = .ok (.goto 4, 3) := by decide +kernel
theorem dX4_skewOf_27 : decode cX4_skewOf 27 = .ok (.iload_n 3, 1) := by decide +kernel
theorem dX4_skewOf_28 : decode cX4_skewOf 28 = .ok (.ireturn, 1) := by decide +kernel
set_option maxRecDepth 20000 in
theorem ggX4_local_X4_areBeside : GoodIn wsX4_local wsX4_areBeside := goodIn_r _ [6, 7, 8, 9, 10, 11, 5, 12, 1, 13, 14, 15, 21, 22, 23, 24, 25, 26, 27, 28, 29, 30, 31, 32, 33, 34, 35, 36, 37, 38, 39, 40, 41, 42, 43, 44, 45, 46, 47, 48, 49, 50, 51, 52, 53, 54, 55, 56, 57, 58, 59] (by decide +kernel) (by decide +kernel)
set_option maxRecDepth 20000 in
theorem gX4_local_X4_areBeside : GoodIn wsX4_local (wsV RX4 140 RX4 yX4_areBeside wsX4_areBeside) := goodIn_app (goodIn_of _ (by decide +kernel)) ggX4_local_X4_areBeside
set_option maxRecDepth 20000 in
theorem ggX4_local_X4_skewOf : GoodIn wsX4_local wsX4_skewOf := goodIn_r _ [19, 20, 21, 22, 23, 24, 25, 26, 27, 28, 29, 30, 31, 32, 33, 34, 35, 36, 37, 38, 39, 40, 41, 42, 43, 44, 45, 46, 47, 48, 49, 50, 51, 52, 53, 54, 55, 56, 57, 58, 59] (by decide +kernel) (by decide +kernel)
set_option maxRecDepth 20000 in
theorem gX4_local_X4_skewOf : GoodIn wsX4_local (wsV RX4 175 RX4 yX4_skewOf wsX4_skewOf) := goodIn_app (goodIn_of _ (by decide +kernel)) ggX4_local_X4_skewOf
theorem dX4_local_0 : decode cX4_local 0 = .ok (.iconst 0, 1) := by decide +kernel
theorem dX4_local_1 : decode cX4_local 1 = .ok (.istore_n 1, 1) := by decide +kernel
theorem dX4_local_2 : decode cX4_local 2 = .ok (.iconst 0, 1) := by decide +kernel
theorem dX4_local_3 : decode cX4_local 3 = .ok (.istore_n 2, 1) := by decide +kernel
theorem dX4_local_4 : decode cX4_local 4 = .ok (.iload_n 2, 1) := by decide +kernel
theorem dX4_local_5 : decode cX4_local 5 = .ok (.aload_n 0, 1) := by decide +kernel
theorem dX4_local_6 : decode cX4_local 6 = .ok (.getfield 112, 3) := by decide +kernel
theorem dX4_local_9 : decode cX4_local 9 = .ok (.if_icmp .ge 52, 3) := by decide +kernel
theorem dX4_local_12 : decode cX4_local 12 = .ok (.iconst 0, 1) := by decide +kernel
theorem dX4_local_13 : decode cX4_local 13 = .ok (.istore_n 3, 1) := by decide +kernel
theorem dX4_local_14 : decode cX4_local 14 = .ok (.iload_n 3, 1) := by decide +kernel
theorem dX4_local_15 : decode cX4_local 15 = .ok (.iload_n 2, 1) := by decide +kernel
theorem dX4_local_16 : decode cX4_local 16 = .ok (.if_icmp .ge 39, 3) := by decide +kernel
theorem dX4_local_19 : decode cX4_local 19 = .ok (.aload_n 0, 1) := by decide +kernel
theorem dX4_local_20 : decode cX4_local 20 = .ok (.iload_n 2, 1) := by decide +kernel
theorem dX4_local_21 : decode cX4_local 21 = .ok (.iload_n 3, 1) := by decide +kernel
theorem dX4_local_22 : decode cX4_local 22 = .ok (.invokevirtual 140, 3) := by decide +kernel
theorem dX4_local_25 : decode cX4_local 25 = .ok (.ifCond .eq 22, 3) := by decide +kernel
theorem dX4_local_28 : decode cX4_local 28 = .ok (.aload_n 0, 1) := by decide +kernel
theorem dX4_local_29 : decode cX4_local 29 = .ok (.iload_n 2, 1) := by decide +kernel
theorem dX4_local_30 : decode cX4_local 30 = .ok (.iload_n 3, 1) := by decide +kernel
theorem dX4_local_31 : decode cX4_local 31 = .ok (.invokevirtual 175, 3) := by decide +kernel
theorem dX4_local_34 : decode cX4_local 34 = .ok (.iload_n 1, 1) := by decide +kernel
theorem dX4_local_35 : decode cX4_local 35 = .ok (.if_icmp .le 12, 3) := by decide +kernel
theorem dX4_local_38 : decode cX4_local 38 = .ok (.aload_n 0, 1) := by decide +kernel
theorem dX4_local_39 : decode cX4_local 39 = .ok (.iload_n 2, 1) := by decide +kernel
theorem dX4_local_40 : decode cX4_local 40 = .ok (.iload_n 3, 1) := by decide +kernel
theorem dX4_local_41 : decode cX4_local 41 = .ok (.invokevirtual 175, 3) := by decide +kernel
theorem dX4_local_44 : decode cX4_local 44 = .ok (.goto 4, 3) := by decide +kernel
theorem dX4_local_47 : decode cX4_local 47 = .ok (.iload_n 1, 1) := by decide +kernel
theorem dX4_local_48 : decode cX4_local 48 = .ok (.istore_n 1, 1) := by decide +kernel
theorem dX4_local_49 : decode cX4_local 49 = .ok (.iinc 3 1, 3) := by decide +kernel
theorem dX4_local_52 : decode cX4_local 52 = .ok (.goto (-38), 3) := by decide +kernel
theorem dX4_local_55 : decode cX4_local 55 = .ok (.iinc 2 1, 3) := by decide +kernel
theorem dX4_local_58 : decode cX4_local 58 = .ok (.goto (-54), 3) := by decide +kernel
theorem dX4_local_61 : decode cX4_local 61 = .ok (.iload_n 1, 1) := by decide +kernel
theorem dX4_local_62 : decode cX4_local 62 = .ok (.ireturn, 1) := by decide +kernel
set_option maxRecDepth 20000 in
theorem ggX4_global_X4_skewOf : GoodIn wsX4_global wsX4_skewOf := goodIn_r _ [6, 7, 8, 9, 10, 11, 12, 13, 14, 15, 16, 17, 18, 19, 20, 21, 22, 23, 24, 25, 26, 27, 28, 29, 30, 31, 32, 33, 34, 35, 36, 37, 38, 39, 40, 41, 42, 43, 44, 45, 46] (by decide +kernel) (by decide +kernel)
set_option maxRecDepth 20000 in
theorem gX4_global_X4_skewOf : GoodIn wsX4_global (wsV RX4 175 RX4 yX4_skewOf wsX4_skewOf) := goodIn_app (goodIn_of _ (by decide +kernel)) ggX4_global_X4_skewOf
theorem dX4_global_0 : decode cX4_global 0 = .ok (.iconst 0, 1) := by decide +kernel
theorem dX4_global_1 : decode cX4_global 1 = .ok (.istore_n 1, 1) := by decide +kernel
theorem dX4_global_2 : decode cX4_global 2 = .ok (.iconst 0, 1) := by decide +kernel
theorem dX4_global_3 : decode cX4_global 3 = .ok (.istore_n 2, 1) := by decide +kernel
theorem dX4_global_4 : decode cX4_global 4 = .ok (.iload_n 2, 1) := by decide +kernel
theorem dX4_global_5 : decode cX4_global 5 = .ok (.aload_n 0, 1) := by decide +kernel
theorem dX4_global_6 : decode cX4_global 6 = .ok (.getfield 112, 3) := by decide +kernel
theorem dX4_global_9 : decode cX4_global 9 = .ok (.if_icmp .ge 43, 3) := by decide +kernel
theorem dX4_global_12 : decode cX4_global 12 = .ok (.iconst 0, 1) := by decide +kernel
theorem dX4_global_13 : decode cX4_global 13 = .ok (.istore_n 3, 1) := by decide +kernel
theorem dX4_global_14 : decode cX4_global 14 = .ok (.iload_n 3, 1) := by decide +kernel
theorem dX4_global_15 : decode cX4_global 15 = .ok (.iload_n 2, 1) := by decide +kernel
theorem dX4_global_16 : decode cX4_global 16 = .ok (.if_icmp .ge 30, 3) := by decide +kernel
theorem dX4_global_19 : decode cX4_global 19 = .ok (.aload_n 0, 1) := by decide +kernel
theorem dX4_global_20 : decode cX4_global 20 = .ok (.iload_n 2, 1) := by decide +kernel
theorem dX4_global_21 : decode cX4_global 21 = .ok (.iload_n 3, 1) := by decide +kernel
theorem dX4_global_22 : decode cX4_global 22 = .ok (.invokevirtual 175, 3) := by decide +kernel
theorem dX4_global_25 : decode cX4_global 25 = .ok (.iload_n 1, 1) := by decide +kernel
theorem dX4_global_26 : decode cX4_global 26 = .ok (.if_icmp .le 12, 3) := by decide +kernel
theorem dX4_global_29 : decode cX4_global 29 = .ok (.aload_n 0, 1) := by decide +kernel
theorem dX4_global_30 : decode cX4_global 30 = .ok (.iload_n 2, 1) := by decide +kernel
theorem dX4_global_31 : decode cX4_global 31 = .ok (.iload_n 3, 1) := by decide +kernel
theorem dX4_global_32 : decode cX4_global 32 = .ok (.invokevirtual 175, 3) := by decide +kernel
theorem dX4_global_35 : decode cX4_global 35 = .ok (.goto 4, 3) := by decide +kernel
theorem dX4_global_38 : decode cX4_global 38 = .ok (.iload_n 1, 1) := by decide +kernel
theorem dX4_global_39 : decode cX4_global 39 = .ok (.istore_n 1, 1) := by decide +kernel
theorem dX4_global_40 : decode cX4_global 40 = .ok (.iinc 3 1, 3) := by decide +kernel
theorem dX4_global_43 : decode cX4_global 43 = .ok (.goto (-29), 3) := by decide +kernel
theorem dX4_global_46 : decode cX4_global 46 = .ok (.iinc 2 1, 3) := by decide +kernel
theorem dX4_global_49 : decode cX4_global 49 = .ok (.goto (-45), 3) := by decide +kernel
theorem dX4_global_52 : decode cX4_global 52 = .ok (.iload_n 1, 1) := by decide +kernel
theorem dX4_global_53 : decode cX4_global 53 = .ok (.ireturn, 1) := by decide +kernel
set_option maxRecDepth 20000 in
theorem ggX4_levelNow_X4_local : GoodIn wsX4_levelNow wsX4_local := goodIn_r _ [5, 6, 7, 8, 9, 4, 10, 11, 12, 13, 14, 15, 16, 17, 18, 19, 20, 21, 22, 23, 24, 30, 31, 32, 33, 34, 35, 36, 37, 38, 39, 40, 41, 42, 43, 44, 45, 46, 47, 48, 49, 50, 51, 52, 53, 54, 55, 56, 57, 58, 59, 60, 61, 62, 63, 64, 65, 66, 67, 68] (by decide +kernel) (by decide +kernel)
set_option maxRecDepth 20000 in
theorem gX4_levelNow_X4_local : GoodIn wsX4_levelNow (wsV RX4 172 RX4 yX4_local wsX4_local) := goodIn_app (goodIn_of _ (by decide +kernel)) ggX4_levelNow_X4_local
set_option maxRecDepth 20000 in
theorem ggX4_levelNow_X4_firstOf : GoodIn wsX4_levelNow wsX4_firstOf := goodIn_r _ [28, 29, 30, 31, 32, 33, 34, 35, 36, 37, 38, 39, 40, 41, 42, 43, 44, 45, 46, 47, 48, 49, 50, 51, 52, 53, 54, 55, 56, 57, 58, 59, 60, 61, 62, 63, 64, 65, 66, 67, 68] (by decide +kernel) (by decide +kernel)
set_option maxRecDepth 20000 in
theorem gX4_levelNow_X4_firstOf : GoodIn wsX4_levelNow (wsV RX4 148 RX4 yX4_firstOf wsX4_firstOf) := goodIn_app (goodIn_of _ (by decide +kernel)) ggX4_levelNow_X4_firstOf
theorem dX4_levelNow_0 : decode cX4_levelNow 0 = .ok (.aload_n 0, 1) := by decide +kernel
theorem dX4_levelNow_1 : decode cX4_levelNow 1 = .ok (.aload_n 0, 1) := by decide +kernel
theorem dX4_levelNow_2 : decode cX4_levelNow 2 = .ok (.invokevirtual 172, 3) := by decide +kernel
theorem dX4_levelNow_5 : decode cX4_levelNow 5 = .ok (.iconst 1, 1) := by decide +kernel
theorem dX4_levelNow_6 : decode cX4_levelNow 6 = .ok (.invokevirtual 148, 3) := by decide +kernel
theorem dX4_levelNow_9 : decode cX4_levelNow 9 = .ok (.iconst 1, 1) := by decide +kernel
theorem dX4_levelNow_10 : decode cX4_levelNow 10 = .ok (.isub, 1) := by decide +kernel
theorem dX4_levelNow_11 : decode cX4_levelNow 11 = .ok (.iconst 2, 1) := by decide +kernel
theorem dX4_levelNow_12 : decode cX4_levelNow 12 = .ok (.idiv, 1) := by decide +kernel
theorem dX4_levelNow_13 : decode cX4_levelNow 13 = .ok (.ireturn, 1) := by decide +kernel
set_option maxRecDepth 20000 in
theorem ggX4_hopsNow_X4_areBeside : GoodIn wsX4_hopsNow wsX4_areBeside := goodIn_r _ [6, 7, 1, 8, 9, 10, 5, 11, 12, 13, 14, 15, 16, 17, 18, 19, 20, 21, 22, 23, 24, 25, 26, 27, 28, 29, 30, 31, 32, 33, 34, 35, 36, 37, 38, 39, 40, 41, 42, 43, 44, 45, 46, 47, 48, 49, 50, 51, 52, 53, 54] (by decide +kernel) (by decide +kernel)
set_option maxRecDepth 20000 in
theorem gX4_hopsNow_X4_areBeside : GoodIn wsX4_hopsNow (wsV RX4 140 RX4 yX4_areBeside wsX4_areBeside) := goodIn_app (goodIn_of _ (by decide +kernel)) ggX4_hopsNow_X4_areBeside
theorem dX4_hopsNow_0 : decode cX4_hopsNow 0 = .ok (.iconst 1, 1) := by decide +kernel
theorem dX4_hopsNow_1 : decode cX4_hopsNow 1 = .ok (.iload_n 1, 1) := by decide +kernel
theorem dX4_hopsNow_2 : decode cX4_hopsNow 2 = .ok (.ishl, 1) := by decide +kernel
theorem dX4_hopsNow_3 : decode cX4_hopsNow 3 = .ok (.istore_n 3, 1) := by decide +kernel
theorem dX4_hopsNow_4 : decode cX4_hopsNow 4 = .ok (.iconst 0, 1) := by decide +kernel
theorem dX4_hopsNow_5 : decode cX4_hopsNow 5 = .ok (.istore 4, 2) := by decide +kernel
theorem dX4_hopsNow_7 : decode cX4_hopsNow 7 = .ok (.iload_n 3, 1) := by decide +kernel
theorem dX4_hopsNow_8 : decode cX4_hopsNow 8 = .ok (.iload_n 2, 1) := by decide +kernel
theorem dX4_hopsNow_9 : decode cX4_hopsNow 9 = .ok (.ishr, 1) := by decide +kernel
theorem dX4_hopsNow_10 : decode cX4_hopsNow 10 = .ok (.iconst 1, 1) := by decide +kernel
theorem dX4_hopsNow_11 : decode cX4_hopsNow 11 = .ok (.iand, 1) := by decide +kernel
theorem dX4_hopsNow_12 : decode cX4_hopsNow 12 = .ok (.ifCond .ne 86, 3) := by decide +kernel
theorem dX4_hopsNow_15 : decode cX4_hopsNow 15 = .ok (.iload_n 3, 1) := by decide +kernel
theorem dX4_hopsNow_16 : decode cX4_hopsNow 16 = .ok (.istore 5, 2) := by decide +kernel
theorem dX4_hopsNow_18 : decode cX4_hopsNow 18 = .ok (.iconst 0, 1) := by decide +kernel
theorem dX4_hopsNow_19 : decode cX4_hopsNow 19 = .ok (.istore 6, 2) := by decide +kernel
theorem dX4_hopsNow_21 : decode cX4_hopsNow 21 = .ok (.iload 6, 2) := by decide +kernel
theorem dX4_hopsNow_23 : decode cX4_hopsNow 23 = .ok (.bipush 36, 2) := by decide +kernel
theorem dX4_hopsNow_25 : decode cX4_hopsNow 25 = .ok (.if_icmp .ge 55, 3) := by decide +kernel
theorem dX4_hopsNow_28 : decode cX4_hopsNow 28 = .ok (.iload 5, 2) := by decide +kernel
theorem dX4_hopsNow_30 : decode cX4_hopsNow 30 = .ok (.iload_n 3, 1) := by decide +kernel
theorem dX4_hopsNow_31 : decode cX4_hopsNow 31 = .ok (.iload 6, 2) := by decide +kernel
theorem dX4_hopsNow_33 : decode cX4_hopsNow 33 = .ok (.bipush 6, 2) := by decide +kernel
theorem dX4_hopsNow_35 : decode cX4_hopsNow 35 = .ok (.idiv, 1) := by decide +kernel
theorem dX4_hopsNow_36 : decode cX4_hopsNow 36 = .ok (.ishr, 1) := by decide +kernel
theorem dX4_hopsNow_37 : decode cX4_hopsNow 37 = .ok (.iconst 1, 1) := by decide +kernel
theorem dX4_hopsNow_38 : decode cX4_hopsNow 38 = .ok (.iand, 1) := by decide +kernel
theorem dX4_hopsNow_39 : decode cX4_hopsNow 39 = .ok (.iconst 1, 1) := by decide +kernel
theorem dX4_hopsNow_40 : decode cX4_hopsNow 40 = .ok (.if_icmp .ne 30, 3) := by decide +kernel
theorem dX4_hopsNow_43 : decode cX4_hopsNow 43 = .ok (.aload_n 0, 1) := by decide +kernel
theorem dX4_hopsNow_44 : decode cX4_hopsNow 44 = .ok (.iload 6, 2) := by decide +kernel
theorem dX4_hopsNow_46 : decode cX4_hopsNow 46 = .ok (.bipush 6, 2) := by decide +kernel
theorem dX4_hopsNow_48 : decode cX4_hopsNow 48 = .ok (.idiv, 1) := by decide +kernel
theorem dX4_hopsNow_49 : decode cX4_hopsNow 49 = .ok (.iload 6, 2) := by decide +kernel
theorem dX4_hopsNow_51 : decode cX4_hopsNow 51 = .ok (.bipush 6, 2) := by decide +kernel
theorem dX4_hopsNow_53 : decode cX4_hopsNow 53 = .ok (.irem, 1) := by decide +kernel
theorem dX4_hopsNow_54 : decode cX4_hopsNow 54 = .ok (.invokevirtual 140, 3) := by decide +kernel
theorem dX4_hopsNow_57 : decode cX4_hopsNow 57 = .ok (.ifCond .eq 13, 3) := by decide +kernel
theorem dX4_hopsNow_60 : decode cX4_hopsNow 60 = .ok (.iconst 1, 1) := by decide +kernel
theorem dX4_hopsNow_61 : decode cX4_hopsNow 61 = .ok (.iload 6, 2) := by decide +kernel
theorem dX4_hopsNow_63 : decode cX4_hopsNow 63 = .ok (.bipush 6, 2) := by decide +kernel
theorem dX4_hopsNow_65 : decode cX4_hopsNow 65 = .ok (.irem, 1) := by decide +kernel
theorem dX4_hopsNow_66 : decode cX4_hopsNow 66 = .ok (.ishl, 1) := by decide +kernel
theorem dX4_hopsNow_67 : decode cX4_hopsNow 67 = .ok (.goto 4, 3) := by decide +kernel
theorem dX4_hopsNow_70 : decode cX4_hopsNow 70 = .ok (.iconst 0, 1) := by decide +kernel
theorem dX4_hopsNow_71 : decode cX4_hopsNow 71 = .ok (.ior, 1) := by decide +kernel
theorem dX4_hopsNow_72 : decode cX4_hopsNow 72 = .ok (.istore 5, 2) := by decide +kernel
theorem dX4_hopsNow_74 : decode cX4_hopsNow 74 = .ok (.iinc 6 1, 3) := by decide +kernel
theorem dX4_hopsNow_77 : decode cX4_hopsNow 77 = .ok (.goto (-56), 3) := by decide +kernel
theorem dX4_hopsNow_80 : decode cX4_hopsNow 80 = .ok (.iload 5, 2) := by decide +kernel
theorem dX4_hopsNow_82 : decode cX4_hopsNow 82 = .ok (.iload_n 3, 1) := by decide +kernel
theorem dX4_hopsNow_83 : decode cX4_hopsNow 83 = .ok (.if_icmp .ne 6, 3) := by decide +kernel
theorem dX4_hopsNow_86 : decode cX4_hopsNow 86 = .ok (.ldc 96, 2) := by decide +kernel
theorem dX4_hopsNow_88 : decode cX4_hopsNow 88 = .ok (.ireturn, 1) := by decide +kernel
theorem dX4_hopsNow_89 : decode cX4_hopsNow 89 = .ok (.iload 5, 2) := by decide +kernel
theorem dX4_hopsNow_91 : decode cX4_hopsNow 91 = .ok (.istore_n 3, 1) := by decide +kernel
theorem dX4_hopsNow_92 : decode cX4_hopsNow 92 = .ok (.iinc 4 1, 3) := by decide +kernel
theorem dX4_hopsNow_95 : decode cX4_hopsNow 95 = .ok (.goto (-88), 3) := by decide +kernel
theorem dX4_hopsNow_98 : decode cX4_hopsNow 98 = .ok (.iload 4, 2) := by decide +kernel
theorem dX4_hopsNow_100 : decode cX4_hopsNow 100 = .ok (.ireturn, 1) := by decide +kernel
set_option maxRecDepth 20000 in
theorem ggX4_hops_X4_isNode : GoodIn wsX4_hops wsX4_isNode := goodIn_r _ [6, 7, 8, 9, 5, 10, 21, 22, 23, 24, 25, 26, 27, 28, 29, 30, 31, 32, 33, 34, 35, 36, 37, 38, 39, 40, 41, 42, 43, 44, 45, 46, 47, 48, 49, 50, 51, 52, 53, 54, 55, 56, 57, 58, 59] (by decide +kernel) (by decide +kernel)
set_option maxRecDepth 20000 in
theorem gX4_hops_X4_isNode : GoodIn wsX4_hops (wsV RX4 135 RX4 yX4_isNode wsX4_isNode) := goodIn_app (goodIn_of _ (by decide +kernel)) ggX4_hops_X4_isNode
set_option maxRecDepth 20000 in
theorem ggX4_hops_X4_hopsNow : GoodIn wsX4_hops wsX4_hopsNow := goodIn_r _ [14, 15, 16, 17, 18, 5, 19, 20, 2, 3, 4, 6, 7, 8, 9, 10, 21, 22, 23, 24, 25, 26, 27, 28, 29, 30, 31, 32, 33, 34, 35, 36, 37, 38, 39, 40, 41, 42, 43, 44, 45, 46, 47, 48, 49, 50, 51, 52, 53, 54, 55, 56, 57, 58, 59] (by decide +kernel) (by decide +kernel)
set_option maxRecDepth 20000 in
theorem gX4_hops_X4_hopsNow : GoodIn wsX4_hops (wsV RX4 178 RX4 yX4_hopsNow wsX4_hopsNow) := goodIn_app (goodIn_of _ (by decide +kernel)) ggX4_hops_X4_hopsNow
theorem dX4_hops_0 : decode cX4_hops 0 = .ok (.aload_n 0, 1) := by decide +kernel
theorem dX4_hops_1 : decode cX4_hops 1 = .ok (.iload_n 1, 1) := by decide +kernel
theorem dX4_hops_2 : decode cX4_hops 2 = .ok (.invokevirtual 135, 3) := by decide +kernel
theorem dX4_hops_5 : decode cX4_hops 5 = .ok (.ifCond .eq 20, 3) := by decide +kernel
theorem dX4_hops_8 : decode cX4_hops 8 = .ok (.aload_n 0, 1) := by decide +kernel
theorem dX4_hops_9 : decode cX4_hops 9 = .ok (.iload_n 2, 1) := by decide +kernel
theorem dX4_hops_10 : decode cX4_hops 10 = .ok (.invokevirtual 135, 3) := by decide +kernel
theorem dX4_hops_13 : decode cX4_hops 13 = .ok (.ifCond .eq 12, 3) := by decide +kernel
theorem dX4_hops_16 : decode cX4_hops 16 = .ok (.aload_n 0, 1) := by decide +kernel
theorem dX4_hops_17 : decode cX4_hops 17 = .ok (.iload_n 1, 1) := by decide +kernel
theorem dX4_hops_18 : decode cX4_hops 18 = .ok (.iload_n 2, 1) := by decide +kernel
theorem dX4_hops_19 : decode cX4_hops 19 = .ok (.invokevirtual 178, 3) := by decide +kernel
theorem dX4_hops_22 : decode cX4_hops 22 = .ok (.goto 5, 3) := by decide +kernel
theorem dX4_hops_25 : decode cX4_hops 25 = .ok (.ldc 138, 2) := by decide +kernel
theorem dX4_hops_27 : decode cX4_hops 27 = .ok (.ireturn, 1) := by decide +kernel
set_option maxRecDepth 20000 in
theorem ggX4_skewNow_X4_local : GoodIn wsX4_skewNow wsX4_local := goodIn_r _ [6, 7, 8, 9, 10, 5, 11, 12, 13, 14, 15, 16, 17, 18, 19, 20, 21, 22, 23, 24, 25, 39, 40, 41, 42, 43, 44, 45, 46, 47, 48, 49, 50, 51, 52, 53, 54, 55, 56, 57, 58, 59, 60, 61, 62, 63, 64, 65, 66, 67, 68, 69, 70, 71, 72, 73, 74, 75, 76, 77] (by decide +kernel) (by decide +kernel)
set_option maxRecDepth 20000 in
theorem gX4_skewNow_X4_local : GoodIn wsX4_skewNow (wsV RX4 172 RX4 yX4_local wsX4_local) := goodIn_app (goodIn_of _ (by decide +kernel)) ggX4_skewNow_X4_local
set_option maxRecDepth 20000 in
theorem ggX4_skewNow_X4_global : GoodIn wsX4_skewNow wsX4_global := goodIn_r _ [29, 7, 21, 22, 23, 5, 24, 25, 39, 40, 41, 42, 43, 44, 45, 46, 47, 48, 49, 50, 51, 52, 53, 54, 55, 56, 57, 58, 59, 60, 61, 62, 63, 64, 65, 66, 67, 68, 69, 70, 71, 72, 73, 74, 75, 76, 77] (by decide +kernel) (by decide +kernel)
set_option maxRecDepth 20000 in
theorem gX4_skewNow_X4_global : GoodIn wsX4_skewNow (wsV RX4 181 RX4 yX4_global wsX4_global) := goodIn_app (goodIn_of _ (by decide +kernel)) ggX4_skewNow_X4_global
set_option maxRecDepth 20000 in
theorem ggX4_skewNow_X4_levelNow : GoodIn wsX4_skewNow wsX4_levelNow := goodIn_r _ [33, 2, 3, 4, 5, 6, 7, 8, 9, 10, 11, 12, 13, 14, 15, 16, 17, 18, 19, 20, 21, 22, 23, 24, 25, 34, 35, 36, 37, 38, 39, 40, 41, 42, 43, 44, 45, 46, 47, 48, 49, 50, 51, 52, 53, 54, 55, 56, 57, 58, 59, 60, 61, 62, 63, 64, 65, 66, 67, 68, 69, 70, 71, 72, 73, 74, 75, 76, 77] (by decide +kernel) (by decide +kernel)
set_option maxRecDepth 20000 in
theorem gX4_skewNow_X4_levelNow : GoodIn wsX4_skewNow (wsV RX4 184 RX4 yX4_levelNow wsX4_levelNow) := goodIn_app (goodIn_of _ (by decide +kernel)) ggX4_skewNow_X4_levelNow
theorem dX4_skewNow_0 : decode cX4_skewNow 0 = .ok (.iload_n 1, 1) := by decide +kernel
theorem dX4_skewNow_1 : decode cX4_skewNow 1 = .ok (.ifCond .ne 10, 3) := by decide +kernel
theorem dX4_skewNow_4 : decode cX4_skewNow 4 = .ok (.aload_n 0, 1) := by decide +kernel
theorem dX4_skewNow_5 : decode cX4_skewNow 5 = .ok (.invokevirtual 172, 3) := by decide +kernel
theorem dX4_skewNow_8 : decode cX4_skewNow 8 = .ok (.goto 31, 3) := by decide +kernel
theorem dX4_skewNow_11 : decode cX4_skewNow 11 = .ok (.iload_n 1, 1) := by decide +kernel
theorem dX4_skewNow_12 : decode cX4_skewNow 12 = .ok (.iconst 1, 1) := by decide +kernel
theorem dX4_skewNow_13 : decode cX4_skewNow 13 = .ok (.if_icmp .ne 10, 3) := by decide +kernel
theorem dX4_skewNow_16 : decode cX4_skewNow 16 = .ok (.aload_n 0, 1) := by decide +kernel
theorem dX4_skewNow_17 : decode cX4_skewNow 17 = .ok (.invokevirtual 181, 3) := by decide +kernel
theorem dX4_skewNow_20 : decode cX4_skewNow 20 = .ok (.goto 19, 3) := by decide +kernel
theorem dX4_skewNow_23 : decode cX4_skewNow 23 = .ok (.iload_n 1, 1) := by decide +kernel
theorem dX4_skewNow_24 : decode cX4_skewNow 24 = .ok (.iconst 2, 1) := by decide +kernel
theorem dX4_skewNow_25 : decode cX4_skewNow 25 = .ok (.if_icmp .ne 10, 3) := by decide +kernel
theorem dX4_skewNow_28 : decode cX4_skewNow 28 = .ok (.aload_n 0, 1) := by decide +kernel
theorem dX4_skewNow_29 : decode cX4_skewNow 29 = .ok (.invokevirtual 184, 3) := by decide +kernel
theorem dX4_skewNow_32 : decode cX4_skewNow 32 = .ok (.goto 7, 3) := by decide +kernel
theorem dX4_skewNow_35 : decode cX4_skewNow 35 = .ok (.aload_n 0, 1) := by decide +kernel
theorem dX4_skewNow_36 : decode cX4_skewNow 36 = .ok (.getfield 125, 3) := by decide +kernel
theorem dX4_skewNow_39 : decode cX4_skewNow 39 = .ok (.ireturn, 1) := by decide +kernel
set_option maxRecDepth 20000 in
theorem ggX4_skew_X4_within : GoodIn wsX4_skew wsX4_within := goodIn_r _ [7] (by decide +kernel) (by decide +kernel)
set_option maxRecDepth 20000 in
theorem gX4_skew_X4_within : GoodIn wsX4_skew (va_wsS RX4 75 yX4_within wsX4_within) := goodIn_app (goodIn_of _ (by decide +kernel)) ggX4_skew_X4_within
set_option maxRecDepth 20000 in
theorem ggX4_skew_X4_skewNow : GoodIn wsX4_skew wsX4_skewNow := goodIn_r _ [11, 12, 13, 14, 15, 6, 16, 2, 17, 18, 19, 20, 21, 22, 23, 24, 25, 26, 4, 5, 7, 27, 28, 29, 30, 31, 32, 33, 34, 35, 36, 37, 38, 39, 40, 41, 42, 43, 44, 45, 46, 47, 48, 49, 50, 51, 52, 53, 54, 55, 56, 57, 58, 59, 60, 61, 62, 63, 64, 65, 66, 67, 68, 69, 70, 71, 72, 73, 74, 75, 76, 77, 78, 79, 80, 81, 82, 83] (by decide +kernel) (by decide +kernel)
set_option maxRecDepth 20000 in
theorem gX4_skew_X4_skewNow : GoodIn wsX4_skew (wsV RX4 187 RX4 yX4_skewNow wsX4_skewNow) := goodIn_app (goodIn_of _ (by decide +kernel)) ggX4_skew_X4_skewNow
theorem dX4_skew_0 : decode cX4_skew 0 = .ok (.iload_n 1, 1) := by decide +kernel
theorem dX4_skew_1 : decode cX4_skew 1 = .ok (.iconst 0, 1) := by decide +kernel
theorem dX4_skew_2 : decode cX4_skew 2 = .ok (.iconst 3, 1) := by decide +kernel
theorem dX4_skew_3 : decode cX4_skew 3 = .ok (.invokestatic 75, 3) := by decide +kernel
theorem dX4_skew_6 : decode cX4_skew 6 = .ok (.ifCond .ne 6, 3) := by decide +kernel
theorem dX4_skew_9 : decode cX4_skew 9 = .ok (.ldc 79, 2) := by decide +kernel
theorem dX4_skew_11 : decode cX4_skew 11 = .ok (.ireturn, 1) := by decide +kernel
theorem dX4_skew_12 : decode cX4_skew 12 = .ok (.aload_n 0, 1) := by decide +kernel
theorem dX4_skew_13 : decode cX4_skew 13 = .ok (.getfield 112, 3) := by decide +kernel
theorem dX4_skew_16 : decode cX4_skew 16 = .ok (.ifCond .ne 8, 3) := by decide +kernel
theorem dX4_skew_19 : decode cX4_skew 19 = .ok (.ldc 111, 2) := by decide +kernel
theorem dX4_skew_21 : decode cX4_skew 21 = .ok (.goto 8, 3) := by decide +kernel
theorem dX4_skew_24 : decode cX4_skew 24 = .ok (.aload_n 0, 1) := by decide +kernel
theorem dX4_skew_25 : decode cX4_skew 25 = .ok (.iload_n 1, 1) := by decide +kernel
theorem dX4_skew_26 : decode cX4_skew 26 = .ok (.invokevirtual 187, 3) := by decide +kernel
theorem dX4_skew_29 : decode cX4_skew 29 = .ok (.ireturn, 1) := by decide +kernel
set_option maxRecDepth 20000 in
theorem ggX4_spreadNow_X4_hopsNow : GoodIn wsX4_spreadNow wsX4_hopsNow := goodIn_r _ [7, 1, 8, 9, 10, 6, 11, 12, 13, 14, 15, 16, 2, 17, 18, 19, 25, 26, 27, 28, 29, 30, 31, 32, 33, 34, 35, 36, 37, 38, 39, 40, 41, 42, 43, 44, 45, 46, 47, 48, 49, 50, 51, 52, 53, 54, 55, 56, 57, 58, 59, 60, 61, 62, 63] (by decide +kernel) (by decide +kernel)
set_option maxRecDepth 20000 in
theorem gX4_spreadNow_X4_hopsNow : GoodIn wsX4_spreadNow (wsV RX4 178 RX4 yX4_hopsNow wsX4_hopsNow) := goodIn_app (goodIn_of _ (by decide +kernel)) ggX4_spreadNow_X4_hopsNow
set_option maxRecDepth 20000 in
theorem ggX4_spreadNow_X4_skewOf : GoodIn wsX4_spreadNow wsX4_skewOf := goodIn_r _ [23, 24, 25, 26, 27, 28, 29, 30, 31, 32, 33, 34, 35, 36, 37, 38, 39, 40, 41, 42, 43, 44, 45, 46, 47, 48, 49, 50, 51, 52, 53, 54, 55, 56, 57, 58, 59, 60, 61, 62, 63] (by decide +kernel) (by decide +kernel)
set_option maxRecDepth 20000 in
theorem gX4_spreadNow_X4_skewOf : GoodIn wsX4_spreadNow (wsV RX4 175 RX4 yX4_skewOf wsX4_skewOf) := goodIn_app (goodIn_of _ (by decide +kernel)) ggX4_spreadNow_X4_skewOf
theorem dX4_spreadNow_0 : decode cX4_spreadNow 0 = .ok (.ldc 96, 2) := by decide +kernel
theorem dX4_spreadNow_2 : decode cX4_spreadNow 2 = .ok (.istore_n 2, 1) := by decide +kernel
theorem dX4_spreadNow_3 : decode cX4_spreadNow 3 = .ok (.iconst 0, 1) := by decide +kernel
theorem dX4_spreadNow_4 : decode cX4_spreadNow 4 = .ok (.istore_n 3, 1) := by decide +kernel
theorem dX4_spreadNow_5 : decode cX4_spreadNow 5 = .ok (.iload_n 3, 1) := by decide +kernel
theorem dX4_spreadNow_6 : decode cX4_spreadNow 6 = .ok (.aload_n 0, 1) := by decide +kernel
theorem dX4_spreadNow_7 : decode cX4_spreadNow 7 = .ok (.getfield 112, 3) := by decide +kernel
theorem dX4_spreadNow_10 : decode cX4_spreadNow 10 = .ok (.if_icmp .ge 64, 3) := by decide +kernel
theorem dX4_spreadNow_13 : decode cX4_spreadNow 13 = .ok (.iconst 0, 1) := by decide +kernel
theorem dX4_spreadNow_14 : decode cX4_spreadNow 14 = .ok (.istore 4, 2) := by decide +kernel
theorem dX4_spreadNow_16 : decode cX4_spreadNow 16 = .ok (.iload 4, 2) := by decide +kernel
theorem dX4_spreadNow_18 : decode cX4_spreadNow 18 = .ok (.iload_n 3, 1) := by decide +kernel
theorem dX4_spreadNow_19 : decode cX4_spreadNow 19 = .ok (.if_icmp .ge 49, 3) := by decide +kernel
theorem dX4_spreadNow_22 : decode cX4_spreadNow 22 = .ok (.aload_n 0, 1) := by decide +kernel
theorem dX4_spreadNow_23 : decode cX4_spreadNow 23 = .ok (.iload_n 3, 1) := by decide +kernel
theorem dX4_spreadNow_24 : decode cX4_spreadNow 24 = .ok (.iload 4, 2) := by decide +kernel
theorem dX4_spreadNow_26 : decode cX4_spreadNow 26 = .ok (.invokevirtual 178, 3) := by decide +kernel
theorem dX4_spreadNow_29 : decode cX4_spreadNow 29 = .ok (.iload_n 1, 1) := by decide +kernel
theorem dX4_spreadNow_30 : decode cX4_spreadNow 30 = .ok (.if_icmp .ne 32, 3) := by decide +kernel
theorem dX4_spreadNow_33 : decode cX4_spreadNow 33 = .ok (.iload_n 2, 1) := by decide +kernel
theorem dX4_spreadNow_34 : decode cX4_spreadNow 34 = .ok (.ldc 96, 2) := by decide +kernel
theorem dX4_spreadNow_36 : decode cX4_spreadNow 36 = .ok (.if_icmp .eq 14, 3) := by decide +kernel
theorem dX4_spreadNow_39 : decode cX4_spreadNow 39 = .ok (.aload_n 0, 1) := by decide +kernel
theorem dX4_spreadNow_40 : decode cX4_spreadNow 40 = .ok (.iload_n 3, 1) := by decide +kernel
theorem dX4_spreadNow_41 : decode cX4_spreadNow 41 = .ok (.iload 4, 2) := by decide +kernel
theorem dX4_spreadNow_43 : decode cX4_spreadNow 43 = .ok (.invokevirtual 175, 3) := by decide +kernel
theorem dX4_spreadNow_46 : decode cX4_spreadNow 46 = .ok (.iload_n 2, 1) := by decide +kernel
theorem dX4_spreadNow_47 : decode cX4_spreadNow 47 = .ok (.if_icmp .le 13, 3) := by decide +kernel
theorem dX4_spreadNow_50 : decode cX4_spreadNow 50 = .ok (.aload_n 0, 1) := by decide +kernel
theorem dX4_spreadNow_51 : decode cX4_spreadNow 51 = .ok (.iload_n 3, 1) := by decide +kernel
theorem dX4_spreadNow_52 : decode cX4_spreadNow 52 = .ok (.iload 4, 2) := by decide +kernel
theorem dX4_spreadNow_54 : decode cX4_spreadNow 54 = .ok (.invokevirtual 175, 3) := by decide +kernel
theorem dX4_spreadNow_57 : decode cX4_spreadNow 57 = .ok (.goto 4, 3) := by decide +kernel
theorem dX4_spreadNow_60 : decode cX4_spreadNow 60 = .ok (.iload_n 2, 1) := by decide +kernel
theorem dX4_spreadNow_61 : decode cX4_spreadNow 61 = .ok (.istore_n 2, 1) := by decide +kernel
theorem dX4_spreadNow_62 : decode cX4_spreadNow 62 = .ok (.iinc 4 1, 3) := by decide +kernel
theorem dX4_spreadNow_65 : decode cX4_spreadNow 65 = .ok (.goto (-49), 3) := by decide +kernel
theorem dX4_spreadNow_68 : decode cX4_spreadNow 68 = .ok (.iinc 3 1, 3) := by decide +kernel
theorem dX4_spreadNow_71 : decode cX4_spreadNow 71 = .ok (.goto (-66), 3) := by decide +kernel
theorem dX4_spreadNow_74 : decode cX4_spreadNow 74 = .ok (.iload_n 2, 1) := by decide +kernel
theorem dX4_spreadNow_75 : decode cX4_spreadNow 75 = .ok (.ireturn, 1) := by decide +kernel
set_option maxRecDepth 20000 in
theorem ggX4_spread_X4_within : GoodIn wsX4_spread wsX4_within := goodIn_r _ [7] (by decide +kernel) (by decide +kernel)
set_option maxRecDepth 20000 in
theorem gX4_spread_X4_within : GoodIn wsX4_spread (va_wsS RX4 75 yX4_within wsX4_within) := goodIn_app (goodIn_of _ (by decide +kernel)) ggX4_spread_X4_within
set_option maxRecDepth 20000 in
theorem ggX4_spread_X4_spreadNow : GoodIn wsX4_spread wsX4_spreadNow := goodIn_r _ [11, 12, 2, 13, 14, 15, 6, 16, 17, 18, 19, 20, 21, 22, 23, 24, 25, 4, 5, 7, 26, 27, 28, 29, 30, 31, 32, 33, 34, 35, 36, 37, 38, 39, 40, 41, 42, 43, 44, 45, 46, 47, 48, 49, 50, 51, 52, 53, 54, 55, 56, 57, 58, 59, 60, 61, 62, 63, 64, 65, 66, 67, 68, 69] (by decide +kernel) (by decide +kernel)
set_option maxRecDepth 20000 in
theorem gX4_spread_X4_spreadNow : GoodIn wsX4_spread (wsV RX4 190 RX4 yX4_spreadNow wsX4_spreadNow) := goodIn_app (goodIn_of _ (by decide +kernel)) ggX4_spread_X4_spreadNow
theorem dX4_spread_0 : decode cX4_spread 0 = .ok (.iload_n 1, 1) := by decide +kernel
theorem dX4_spread_1 : decode cX4_spread 1 = .ok (.iconst 1, 1) := by decide +kernel
theorem dX4_spread_2 : decode cX4_spread 2 = .ok (.iconst 5, 1) := by decide +kernel
theorem dX4_spread_3 : decode cX4_spread 3 = .ok (.invokestatic 75, 3) := by decide +kernel
theorem dX4_spread_6 : decode cX4_spread 6 = .ok (.ifCond .ne 6, 3) := by decide +kernel
theorem dX4_spread_9 : decode cX4_spread 9 = .ok (.ldc 79, 2) := by decide +kernel
theorem dX4_spread_11 : decode cX4_spread 11 = .ok (.ireturn, 1) := by decide +kernel
theorem dX4_spread_12 : decode cX4_spread 12 = .ok (.aload_n 0, 1) := by decide +kernel
theorem dX4_spread_13 : decode cX4_spread 13 = .ok (.getfield 112, 3) := by decide +kernel
theorem dX4_spread_16 : decode cX4_spread 16 = .ok (.ifCond .ne 8, 3) := by decide +kernel
theorem dX4_spread_19 : decode cX4_spread 19 = .ok (.ldc 111, 2) := by decide +kernel
theorem dX4_spread_21 : decode cX4_spread 21 = .ok (.goto 8, 3) := by decide +kernel
theorem dX4_spread_24 : decode cX4_spread 24 = .ok (.aload_n 0, 1) := by decide +kernel
theorem dX4_spread_25 : decode cX4_spread 25 = .ok (.iload_n 1, 1) := by decide +kernel
theorem dX4_spread_26 : decode cX4_spread 26 = .ok (.invokevirtual 190, 3) := by decide +kernel
theorem dX4_spread_29 : decode cX4_spread 29 = .ok (.ireturn, 1) := by decide +kernel
theorem dX4_setAside_0 : decode cX4_setAside 0 = .ok (.iconst 0, 1) := by decide +kernel
theorem dX4_setAside_1 : decode cX4_setAside 1 = .ok (.istore_n 1, 1) := by decide +kernel
theorem dX4_setAside_2 : decode cX4_setAside 2 = .ok (.iload_n 1, 1) := by decide +kernel
theorem dX4_setAside_3 : decode cX4_setAside 3 = .ok (.bipush 24, 2) := by decide +kernel
theorem dX4_setAside_5 : decode cX4_setAside 5 = .ok (.if_icmp .ge 21, 3) := by decide +kernel
theorem dX4_setAside_8 : decode cX4_setAside 8 = .ok (.aload_n 0, 1) := by decide +kernel
theorem dX4_setAside_9 : decode cX4_setAside 9 = .ok (.getfield 45, 3) := by decide +kernel
theorem dX4_setAside_12 : decode cX4_setAside 12 = .ok (.iload_n 1, 1) := by decide +kernel
theorem dX4_setAside_13 : decode cX4_setAside 13 = .ok (.aload_n 0, 1) := by decide +kernel
theorem dX4_setAside_14 : decode cX4_setAside 14 = .ok (.getfield 22, 3) := by decide +kernel
theorem dX4_setAside_17 : decode cX4_setAside 17 = .ok (.iload_n 1, 1) := by decide +kernel
theorem dX4_setAside_18 : decode cX4_setAside 18 = .ok (.iaload, 1) := by decide +kernel
theorem dX4_setAside_19 : decode cX4_setAside 19 = .ok (.iastore, 1) := by decide +kernel
theorem dX4_setAside_20 : decode cX4_setAside 20 = .ok (.iinc 1 1, 3) := by decide +kernel
theorem dX4_setAside_23 : decode cX4_setAside 23 = .ok (.goto (-21), 3) := by decide +kernel
theorem dX4_setAside_26 : decode cX4_setAside 26 = .ok (.iconst 0, 1) := by decide +kernel
theorem dX4_setAside_27 : decode cX4_setAside 27 = .ok (.istore_n 1, 1) := by decide +kernel
theorem dX4_setAside_28 : decode cX4_setAside 28 = .ok (.iload_n 1, 1) := by decide +kernel
theorem dX4_setAside_29 : decode cX4_setAside 29 = .ok (.bipush 6, 2) := by decide +kernel
theorem dX4_setAside_31 : decode cX4_setAside 31 = .ok (.if_icmp .ge 45, 3) := by decide +kernel
theorem dX4_setAside_34 : decode cX4_setAside 34 = .ok (.aload_n 0, 1) := by decide +kernel
theorem dX4_setAside_35 : decode cX4_setAside 35 = .ok (.getfield 48, 3) := by decide +kernel
theorem dX4_setAside_38 : decode cX4_setAside 38 = .ok (.iload_n 1, 1) := by decide +kernel
theorem dX4_setAside_39 : decode cX4_setAside 39 = .ok (.aload_n 0, 1) := by decide +kernel
theorem dX4_setAside_40 : decode cX4_setAside 40 = .ok (.getfield 19, 3) := by decide +kernel
theorem dX4_setAside_43 : decode cX4_setAside 43 = .ok (.iload_n 1, 1) := by decide +kernel
theorem dX4_setAside_44 : decode cX4_setAside 44 = .ok (.iaload, 1) := by decide +kernel
theorem dX4_setAside_45 : decode cX4_setAside 45 = .ok (.iastore, 1) := by decide +kernel
theorem dX4_setAside_46 : decode cX4_setAside 46 = .ok (.aload_n 0, 1) := by decide +kernel
theorem dX4_setAside_47 : decode cX4_setAside 47 = .ok (.getfield 51, 3) := by decide +kernel
theorem dX4_setAside_50 : decode cX4_setAside 50 = .ok (.iload_n 1, 1) := by decide +kernel
theorem dX4_setAside_51 : decode cX4_setAside 51 = .ok (.aload_n 0, 1) := by decide +kernel
theorem dX4_setAside_52 : decode cX4_setAside 52 = .ok (.getfield 25, 3) := by decide +kernel
theorem dX4_setAside_55 : decode cX4_setAside 55 = .ok (.iload_n 1, 1) := by decide +kernel
theorem dX4_setAside_56 : decode cX4_setAside 56 = .ok (.baload, 1) := by decide +kernel
theorem dX4_setAside_57 : decode cX4_setAside 57 = .ok (.bastore, 1) := by decide +kernel
theorem dX4_setAside_58 : decode cX4_setAside 58 = .ok (.aload_n 0, 1) := by decide +kernel
theorem dX4_setAside_59 : decode cX4_setAside 59 = .ok (.getfield 54, 3) := by decide +kernel
theorem dX4_setAside_62 : decode cX4_setAside 62 = .ok (.iload_n 1, 1) := by decide +kernel
theorem dX4_setAside_63 : decode cX4_setAside 63 = .ok (.aload_n 0, 1) := by decide +kernel
theorem dX4_setAside_64 : decode cX4_setAside 64 = .ok (.getfield 29, 3) := by decide +kernel
theorem dX4_setAside_67 : decode cX4_setAside 67 = .ok (.iload_n 1, 1) := by decide +kernel
theorem dX4_setAside_68 : decode cX4_setAside 68 = .ok (.iaload, 1) := by decide +kernel
theorem dX4_setAside_69 : decode cX4_setAside 69 = .ok (.iastore, 1) := by decide +kernel
theorem dX4_setAside_70 : decode cX4_setAside 70 = .ok (.iinc 1 1, 3) := by decide +kernel
theorem dX4_setAside_73 : decode cX4_setAside 73 = .ok (.goto (-45), 3) := by decide +kernel
theorem dX4_setAside_76 : decode cX4_setAside 76 = .ok (.return_, 1) := by decide +kernel
theorem dX4_setBack_0 : decode cX4_setBack 0 = .ok (.iconst 0, 1) := by decide +kernel
theorem dX4_setBack_1 : decode cX4_setBack 1 = .ok (.istore_n 1, 1) := by decide +kernel
theorem dX4_setBack_2 : decode cX4_setBack 2 = .ok (.iload_n 1, 1) := by decide +kernel
theorem dX4_setBack_3 : decode cX4_setBack 3 = .ok (.bipush 24, 2) := by decide +kernel
theorem dX4_setBack_5 : decode cX4_setBack 5 = .ok (.if_icmp .ge 21, 3) := by decide +kernel
theorem dX4_setBack_8 : decode cX4_setBack 8 = .ok (.aload_n 0, 1) := by decide +kernel
theorem dX4_setBack_9 : decode cX4_setBack 9 = .ok (.getfield 22, 3) := by decide +kernel
theorem dX4_setBack_12 : decode cX4_setBack 12 = .ok (.iload_n 1, 1) := by decide +kernel
theorem dX4_setBack_13 : decode cX4_setBack 13 = .ok (.aload_n 0, 1) := by decide +kernel
theorem dX4_setBack_14 : decode cX4_setBack 14 = .ok (.getfield 45, 3) := by decide +kernel
theorem dX4_setBack_17 : decode cX4_setBack 17 = .ok (.iload_n 1, 1) := by decide +kernel
theorem dX4_setBack_18 : decode cX4_setBack 18 = .ok (.iaload, 1) := by decide +kernel
theorem dX4_setBack_19 : decode cX4_setBack 19 = .ok (.iastore, 1) := by decide +kernel
theorem dX4_setBack_20 : decode cX4_setBack 20 = .ok (.iinc 1 1, 3) := by decide +kernel
theorem dX4_setBack_23 : decode cX4_setBack 23 = .ok (.goto (-21), 3) := by decide +kernel
theorem dX4_setBack_26 : decode cX4_setBack 26 = .ok (.iconst 0, 1) := by decide +kernel
theorem dX4_setBack_27 : decode cX4_setBack 27 = .ok (.istore_n 1, 1) := by decide +kernel
theorem dX4_setBack_28 : decode cX4_setBack 28 = .ok (.iload_n 1, 1) := by decide +kernel
theorem dX4_setBack_29 : decode cX4_setBack 29 = .ok (.bipush 6, 2) := by decide +kernel
theorem dX4_setBack_31 : decode cX4_setBack 31 = .ok (.if_icmp .ge 45, 3) := by decide +kernel
theorem dX4_setBack_34 : decode cX4_setBack 34 = .ok (.aload_n 0, 1) := by decide +kernel
theorem dX4_setBack_35 : decode cX4_setBack 35 = .ok (.getfield 19, 3) := by decide +kernel
theorem dX4_setBack_38 : decode cX4_setBack 38 = .ok (.iload_n 1, 1) := by decide +kernel
theorem dX4_setBack_39 : decode cX4_setBack 39 = .ok (.aload_n 0, 1) := by decide +kernel
theorem dX4_setBack_40 : decode cX4_setBack 40 = .ok (.getfield 48, 3) := by decide +kernel
theorem dX4_setBack_43 : decode cX4_setBack 43 = .ok (.iload_n 1, 1) := by decide +kernel
theorem dX4_setBack_44 : decode cX4_setBack 44 = .ok (.iaload, 1) := by decide +kernel
theorem dX4_setBack_45 : decode cX4_setBack 45 = .ok (.iastore, 1) := by decide +kernel
theorem dX4_setBack_46 : decode cX4_setBack 46 = .ok (.aload_n 0, 1) := by decide +kernel
theorem dX4_setBack_47 : decode cX4_setBack 47 = .ok (.getfield 25, 3) := by decide +kernel
theorem dX4_setBack_50 : decode cX4_setBack 50 = .ok (.iload_n 1, 1) := by decide +kernel
theorem dX4_setBack_51 : decode cX4_setBack 51 = .ok (.aload_n 0, 1) := by decide +kernel
theorem dX4_setBack_52 : decode cX4_setBack 52 = .ok (.getfield 51, 3) := by decide +kernel
theorem dX4_setBack_55 : decode cX4_setBack 55 = .ok (.iload_n 1, 1) := by decide +kernel
theorem dX4_setBack_56 : decode cX4_setBack 56 = .ok (.baload, 1) := by decide +kernel
theorem dX4_setBack_57 : decode cX4_setBack 57 = .ok (.bastore, 1) := by decide +kernel
theorem dX4_setBack_58 : decode cX4_setBack 58 = .ok (.aload_n 0, 1) := by decide +kernel
theorem dX4_setBack_59 : decode cX4_setBack 59 = .ok (.getfield 29, 3) := by decide +kernel
theorem dX4_setBack_62 : decode cX4_setBack 62 = .ok (.iload_n 1, 1) := by decide +kernel
theorem dX4_setBack_63 : decode cX4_setBack 63 = .ok (.aload_n 0, 1) := by decide +kernel
theorem dX4_setBack_64 : decode cX4_setBack 64 = .ok (.getfield 54, 3) := by decide +kernel
theorem dX4_setBack_67 : decode cX4_setBack 67 = .ok (.iload_n 1, 1) := by decide +kernel
theorem dX4_setBack_68 : decode cX4_setBack 68 = .ok (.iaload, 1) := by decide +kernel
theorem dX4_setBack_69 : decode cX4_setBack 69 = .ok (.iastore, 1) := by decide +kernel
theorem dX4_setBack_70 : decode cX4_setBack 70 = .ok (.iinc 1 1, 3) := by decide +kernel
theorem dX4_setBack_73 : decode cX4_setBack 73 = .ok (.goto (-45), 3) := by decide +kernel
theorem dX4_setBack_76 : decode cX4_setBack 76 = .ok (.return_, 1) := by decide +kernel
set_option maxRecDepth 20000 in
theorem ggX4_layWorst_X4_setAside : GoodIn wsX4_layWorst wsX4_setAside := goodIn_r _ [10, 11, 12, 13, 5, 14, 15, 16, 17, 74, 75, 76, 77, 78, 79, 80, 81, 82, 83, 84, 85, 86, 87, 88, 89, 90, 91, 92, 93, 94, 95, 96, 97, 98, 99, 100, 101, 102, 103, 104, 105, 106, 107, 108, 109, 110, 111, 112] (by decide +kernel) (by decide +kernel)
set_option maxRecDepth 20000 in
theorem gX4_layWorst_X4_setAside : GoodIn wsX4_layWorst (wsV RX4 199 RX4 yX4_setAside wsX4_setAside) := goodIn_app (goodIn_of _ (by decide +kernel)) ggX4_layWorst_X4_setAside
set_option maxRecDepth 20000 in
theorem ggX4_layWorst_X4_tick : GoodIn wsX4_layWorst wsX4_tick := goodIn_r _ [21, 4, 22, 1, 15, 17, 12, 5, 23, 24, 25, 26, 9, 27, 28, 29, 30, 31, 32, 33, 34, 35, 36, 37, 38, 39, 40, 41, 42, 43, 44, 45, 46, 47, 48, 49, 50, 51, 52, 53, 54, 55, 56, 57, 58, 59, 60, 61, 74, 75, 76, 77, 78, 79, 80, 81, 82, 83, 84, 85, 86, 87, 88, 89, 90, 91, 92, 93, 94, 95, 96, 97, 98, 99, 100, 101, 102, 103, 104, 105, 106, 107, 108, 109, 110, 111, 112] (by decide +kernel) (by decide +kernel)
set_option maxRecDepth 20000 in
theorem gX4_layWorst_X4_tick : GoodIn wsX4_layWorst (wsV RX4 166 RX4 yX4_tick wsX4_tick) := goodIn_app (goodIn_of _ (by decide +kernel)) ggX4_layWorst_X4_tick
set_option maxRecDepth 20000 in
theorem ggX4_layWorst_X4_local : GoodIn wsX4_layWorst wsX4_local := goodIn_r _ [65, 4, 32, 33, 34, 9, 35, 36, 1, 37, 38, 39, 40, 41, 42, 43, 66, 67, 68, 69, 12, 74, 75, 76, 77, 78, 79, 80, 81, 82, 83, 84, 85, 86, 87, 88, 89, 90, 91, 92, 93, 94, 95, 96, 97, 98, 99, 100, 101, 102, 103, 104, 105, 106, 107, 108, 109, 110, 111, 112] (by decide +kernel) (by decide +kernel)
set_option maxRecDepth 20000 in
theorem gX4_layWorst_X4_local : GoodIn wsX4_layWorst (wsV RX4 172 RX4 yX4_local wsX4_local) := goodIn_app (goodIn_of _ (by decide +kernel)) ggX4_layWorst_X4_local
set_option maxRecDepth 20000 in
theorem ggX4_layWorst_X4_setBack : GoodIn wsX4_layWorst wsX4_setBack := goodIn_r _ [73, 12, 11, 5, 13, 15, 14, 17, 16, 74, 75, 76, 77, 78, 79, 80, 81, 82, 83, 84, 85, 86, 87, 88, 89, 90, 91, 92, 93, 94, 95, 96, 97, 98, 99, 100, 101, 102, 103, 104, 105, 106, 107, 108, 109, 110, 111, 112] (by decide +kernel) (by decide +kernel)
set_option maxRecDepth 20000 in
theorem gX4_layWorst_X4_setBack : GoodIn wsX4_layWorst (wsV RX4 202 RX4 yX4_setBack wsX4_setBack) := goodIn_app (goodIn_of _ (by decide +kernel)) ggX4_layWorst_X4_setBack
theorem dX4_layWorst_0 : decode cX4_layWorst 0 = .ok (.aload_n 0, 1) := by decide +kernel
theorem dX4_layWorst_1 : decode cX4_layWorst 1 = .ok (.ldc 96, 2) := by decide +kernel
theorem dX4_layWorst_3 : decode cX4_layWorst 3 = .ok (.putfield 193, 3) := by decide +kernel
theorem dX4_layWorst_6 : decode cX4_layWorst 6 = .ok (.aload_n 0, 1) := by decide +kernel
theorem dX4_layWorst_7 : decode cX4_layWorst 7 = .ok (.iconst 0, 1) := by decide +kernel
theorem dX4_layWorst_8 : decode cX4_layWorst 8 = .ok (.putfield 196, 3) := by decide +kernel
theorem dX4_layWorst_11 : decode cX4_layWorst 11 = .ok (.aload_n 0, 1) := by decide +kernel
theorem dX4_layWorst_12 : decode cX4_layWorst 12 = .ok (.invokevirtual 199, 3) := by decide +kernel
theorem dX4_layWorst_15 : decode cX4_layWorst 15 = .ok (.iconst 0, 1) := by decide +kernel
theorem dX4_layWorst_16 : decode cX4_layWorst 16 = .ok (.istore_n 2, 1) := by decide +kernel
theorem dX4_layWorst_17 : decode cX4_layWorst 17 = .ok (.iload_n 2, 1) := by decide +kernel
theorem dX4_layWorst_18 : decode cX4_layWorst 18 = .ok (.iconst 1, 1) := by decide +kernel
theorem dX4_layWorst_19 : decode cX4_layWorst 19 = .ok (.aload_n 0, 1) := by decide +kernel
theorem dX4_layWorst_20 : decode cX4_layWorst 20 = .ok (.getfield 112, 3) := by decide +kernel
theorem dX4_layWorst_23 : decode cX4_layWorst 23 = .ok (.ishl, 1) := by decide +kernel
theorem dX4_layWorst_24 : decode cX4_layWorst 24 = .ok (.if_icmp .ge 129, 3) := by decide +kernel
theorem dX4_layWorst_27 : decode cX4_layWorst 27 = .ok (.iconst 0, 1) := by decide +kernel
theorem dX4_layWorst_28 : decode cX4_layWorst 28 = .ok (.istore_n 3, 1) := by decide +kernel
theorem dX4_layWorst_29 : decode cX4_layWorst 29 = .ok (.iload_n 3, 1) := by decide +kernel
theorem dX4_layWorst_30 : decode cX4_layWorst 30 = .ok (.aload_n 0, 1) := by decide +kernel
theorem dX4_layWorst_31 : decode cX4_layWorst 31 = .ok (.getfield 112, 3) := by decide +kernel
theorem dX4_layWorst_34 : decode cX4_layWorst 34 = .ok (.if_icmp .ge 31, 3) := by decide +kernel
theorem dX4_layWorst_37 : decode cX4_layWorst 37 = .ok (.aload_n 0, 1) := by decide +kernel
theorem dX4_layWorst_38 : decode cX4_layWorst 38 = .ok (.getfield 19, 3) := by decide +kernel
theorem dX4_layWorst_41 : decode cX4_layWorst 41 = .ok (.iload_n 3, 1) := by decide +kernel
theorem dX4_layWorst_42 : decode cX4_layWorst 42 = .ok (.iload_n 2, 1) := by decide +kernel
theorem dX4_layWorst_43 : decode cX4_layWorst 43 = .ok (.iload_n 3, 1) := by decide +kernel
theorem dX4_layWorst_44 : decode cX4_layWorst 44 = .ok (.ishr, 1) := by decide +kernel
theorem dX4_layWorst_45 : decode cX4_layWorst 45 = .ok (.iconst 1, 1) := by decide +kernel
theorem dX4_layWorst_46 : decode cX4_layWorst 46 = .ok (.iand, 1) := by decide +kernel
theorem dX4_layWorst_47 : decode cX4_layWorst 47 = .ok (.iconst 1, 1) := by decide +kernel
theorem dX4_layWorst_48 : decode cX4_layWorst 48 = .ok (.if_icmp .ne 8, 3) := by decide +kernel
theorem dX4_layWorst_51 : decode cX4_layWorst 51 = .ok (.bipush 110, 2) := by decide +kernel
theorem dX4_layWorst_53 : decode cX4_layWorst 53 = .ok (.goto 5, 3) := by decide +kernel
theorem dX4_layWorst_56 : decode cX4_layWorst 56 = .ok (.bipush 90, 2) := by decide +kernel
theorem dX4_layWorst_58 : decode cX4_layWorst 58 = .ok (.iastore, 1) := by decide +kernel
theorem dX4_layWorst_59 : decode cX4_layWorst 59 = .ok (.iinc 3 1, 3) := by decide +kernel
theorem dX4_layWorst_62 : decode cX4_layWorst 62 = .ok (.goto (-33), 3) := by decide +kernel
theorem dX4_layWorst_65 : decode cX4_layWorst 65 = .ok (.iconst 0, 1) := by decide +kernel
theorem dX4_layWorst_66 : decode cX4_layWorst 66 = .ok (.istore_n 3, 1) := by decide +kernel
theorem dX4_layWorst_67 : decode cX4_layWorst 67 = .ok (.iload_n 3, 1) := by decide +kernel
theorem dX4_layWorst_68 : decode cX4_layWorst 68 = .ok (.iload_n 1, 1) := by decide +kernel
theorem dX4_layWorst_69 : decode cX4_layWorst 69 = .ok (.if_icmp .ge 13, 3) := by decide +kernel
theorem dX4_layWorst_72 : decode cX4_layWorst 72 = .ok (.aload_n 0, 1) := by decide +kernel
theorem dX4_layWorst_73 : decode cX4_layWorst 73 = .ok (.invokevirtual 166, 3) := by decide +kernel
theorem dX4_layWorst_76 : decode cX4_layWorst 76 = .ok (.iinc 3 1, 3) := by decide +kernel
theorem dX4_layWorst_79 : decode cX4_layWorst 79 = .ok (.goto (-12), 3) := by decide +kernel
theorem dX4_layWorst_82 : decode cX4_layWorst 82 = .ok (.aload_n 0, 1) := by decide +kernel
theorem dX4_layWorst_83 : decode cX4_layWorst 83 = .ok (.getfield 193, 3) := by decide +kernel
theorem dX4_layWorst_86 : decode cX4_layWorst 86 = .ok (.ldc 96, 2) := by decide +kernel
theorem dX4_layWorst_88 : decode cX4_layWorst 88 = .ok (.if_icmp .eq 14, 3) := by decide +kernel
theorem dX4_layWorst_91 : decode cX4_layWorst 91 = .ok (.aload_n 0, 1) := by decide +kernel
theorem dX4_layWorst_92 : decode cX4_layWorst 92 = .ok (.invokevirtual 172, 3) := by decide +kernel
theorem dX4_layWorst_95 : decode cX4_layWorst 95 = .ok (.aload_n 0, 1) := by decide +kernel
theorem dX4_layWorst_96 : decode cX4_layWorst 96 = .ok (.getfield 193, 3) := by decide +kernel
theorem dX4_layWorst_99 : decode cX4_layWorst 99 = .ok (.if_icmp .le 7, 3) := by decide +kernel
theorem dX4_layWorst_102 : decode cX4_layWorst 102 = .ok (.iconst 1, 1) := by decide +kernel
theorem dX4_layWorst_103 : decode cX4_layWorst 103 = .ok (.goto 4, 3) := by decide +kernel
theorem dX4_layWorst_106 : decode cX4_layWorst 106 = .ok (.iconst 0, 1) := by decide +kernel
theorem dX4_layWorst_107 : decode cX4_layWorst 107 = .ok (.istore_n 3, 1) := by decide +kernel
theorem dX4_layWorst_108 : decode cX4_layWorst 108 = .ok (.aload_n 0, 1) := by decide +kernel
theorem dX4_layWorst_109 : decode cX4_layWorst 109 = .ok (.iload_n 3, 1) := by decide +kernel
theorem dX4_layWorst_110 : decode cX4_layWorst 110 = .ok (.ifCond .eq 10, 3) := by decide +kernel
theorem dX4_layWorst_113 : decode cX4_layWorst 113 = .ok (.aload_n 0, 1) := by decide +kernel
theorem dX4_layWorst_114 : decode cX4_layWorst 114 = .ok (.invokevirtual 172, 3) := by decide +kernel
theorem dX4_layWorst_117 : decode cX4_layWorst 117 = .ok (.goto 7, 3) := by decide +kernel
theorem dX4_layWorst_120 : decode cX4_layWorst 120 = .ok (.aload_n 0, 1) := by decide +kernel
theorem dX4_layWorst_121 : decode cX4_layWorst 121 = .ok (.getfield 193, 3) := by decide +kernel
theorem dX4_layWorst_124 : decode cX4_layWorst 124 = .ok (.putfield 193, 3) := by decide +kernel
theorem dX4_layWorst_127 : decode cX4_layWorst 127 = .ok (.aload_n 0, 1) := by decide +kernel
theorem dX4_layWorst_128 : decode cX4_layWorst 128 = .ok (.iload_n 3, 1) := by decide +kernel
theorem dX4_layWorst_129 : decode cX4_layWorst 129 = .ok (.ifCond .eq 7, 3) := by decide +kernel
theorem dX4_layWorst_132 : decode cX4_layWorst 132 = .ok (.iload_n 2, 1) := by decide +kernel
theorem dX4_layWorst_133 : decode cX4_layWorst 133 = .ok (.goto 7, 3) := by decide +kernel
theorem dX4_layWorst_136 : decode cX4_layWorst 136 = .ok (.aload_n 0, 1) := by decide +kernel
theorem dX4_layWorst_137 : decode cX4_layWorst 137 = .ok (.getfield 196, 3) := by decide +kernel
theorem dX4_layWorst_140 : decode cX4_layWorst 140 = .ok (.putfield 196, 3) := by decide +kernel
theorem dX4_layWorst_143 : decode cX4_layWorst 143 = .ok (.aload_n 0, 1) := by decide +kernel
theorem dX4_layWorst_144 : decode cX4_layWorst 144 = .ok (.invokevirtual 202, 3) := by decide +kernel
theorem dX4_layWorst_147 : decode cX4_layWorst 147 = .ok (.iinc 2 1, 3) := by decide +kernel
theorem dX4_layWorst_150 : decode cX4_layWorst 150 = .ok (.goto (-133), 3) := by decide +kernel
theorem dX4_layWorst_153 : decode cX4_layWorst 153 = .ok (.return_, 1) := by decide +kernel
set_option maxRecDepth 20000 in
theorem ggX4_worstNow_X4_layWorst : GoodIn wsX4_worstNow wsX4_layWorst := goodIn_r _ [7, 8, 1, 2, 9, 10, 11, 12, 13, 6, 14, 15, 16, 17, 18, 19, 20, 21, 22, 23, 24, 25, 26, 27, 28, 29, 30, 31, 32, 33, 34, 35, 36, 37, 38, 39, 40, 41, 42, 43, 44, 45, 46, 47, 48, 49, 50, 51, 52, 53, 54, 55, 56, 57, 58, 59, 60, 61, 62, 63, 64, 65, 66, 67, 68, 69, 70, 71, 72, 73, 74, 75, 76, 77, 78, 79, 80, 81, 82, 83, 84, 85, 86, 87, 88, 89, 90, 91, 92, 93, 94, 95, 96, 97, 98, 99, 100, 101, 102, 103, 104, 105, 106, 107, 108, 109, 110, 111, 112, 113, 114, 115, 116] (by decide +kernel) (by decide +kernel)
set_option maxRecDepth 20000 in
theorem gX4_worstNow_X4_layWorst : GoodIn wsX4_worstNow (wsV RX4 205 RX4 yX4_layWorst wsX4_layWorst) := goodIn_app (goodIn_of _ (by decide +kernel)) ggX4_worstNow_X4_layWorst
theorem dX4_worstNow_0 : decode cX4_worstNow 0 = .ok (.aload_n 0, 1) := by decide +kernel
theorem dX4_worstNow_1 : decode cX4_worstNow 1 = .ok (.iload_n 1, 1) := by decide +kernel
theorem dX4_worstNow_2 : decode cX4_worstNow 2 = .ok (.invokevirtual 205, 3) := by decide +kernel
theorem dX4_worstNow_5 : decode cX4_worstNow 5 = .ok (.iload_n 2, 1) := by decide +kernel
theorem dX4_worstNow_6 : decode cX4_worstNow 6 = .ok (.ifCond .ne 10, 3) := by decide +kernel
theorem dX4_worstNow_9 : decode cX4_worstNow 9 = .ok (.aload_n 0, 1) := by decide +kernel
theorem dX4_worstNow_10 : decode cX4_worstNow 10 = .ok (.getfield 193, 3) := by decide +kernel
theorem dX4_worstNow_13 : decode cX4_worstNow 13 = .ok (.goto 7, 3) := by decide +kernel
theorem dX4_worstNow_16 : decode cX4_worstNow 16 = .ok (.aload_n 0, 1) := by decide +kernel
theorem dX4_worstNow_17 : decode cX4_worstNow 17 = .ok (.getfield 196, 3) := by decide +kernel
theorem dX4_worstNow_20 : decode cX4_worstNow 20 = .ok (.ireturn, 1) := by decide +kernel
set_option maxRecDepth 20000 in
theorem ggX4_worst_X4_within : GoodIn wsX4_worst wsX4_within := goodIn_r _ [7] (by decide +kernel) (by decide +kernel)
set_option maxRecDepth 20000 in
theorem gX4_worst_X4_within : GoodIn wsX4_worst (va_wsS RX4 75 yX4_within wsX4_within) := goodIn_app (goodIn_of _ (by decide +kernel)) ggX4_worst_X4_within
set_option maxRecDepth 20000 in
theorem ggX4_worst_X4_worstNow : GoodIn wsX4_worst wsX4_worstNow := goodIn_r _ [11, 12, 13, 14, 15, 16, 6, 17, 18, 2, 19, 20, 21, 22, 23, 24, 25, 26, 27, 28, 29, 30, 31, 32, 33, 34, 35, 36, 37, 38, 39, 40, 41, 42, 43, 44, 45, 46, 47, 48, 49, 50, 51, 52, 53, 4, 5, 7, 54, 55, 56, 57, 58, 59, 60, 61, 62, 63, 64, 65, 66, 67, 68, 69, 70, 71, 72, 73, 74, 75, 76, 77, 78, 79, 80, 81, 82, 83, 84, 85, 86, 87, 88, 89, 90, 91, 92, 93, 94, 95, 96, 97, 98, 99, 100, 101, 102, 103, 104, 105, 106, 107, 108, 109, 110, 111, 112, 113, 114, 115, 116, 117, 118, 119, 120, 121, 122] (by decide +kernel) (by decide +kernel)
set_option maxRecDepth 20000 in
theorem gX4_worst_X4_worstNow : GoodIn wsX4_worst (wsV RX4 209 RX4 yX4_worstNow wsX4_worstNow) := goodIn_app (goodIn_of _ (by decide +kernel)) ggX4_worst_X4_worstNow
theorem dX4_worst_0 : decode cX4_worst 0 = .ok (.iload_n 1, 1) := by decide +kernel
theorem dX4_worst_1 : decode cX4_worst 1 = .ok (.iconst 1, 1) := by decide +kernel
theorem dX4_worst_2 : decode cX4_worst 2 = .ok (.bipush 12, 2) := by decide +kernel
theorem dX4_worst_4 : decode cX4_worst 4 = .ok (.invokestatic 75, 3) := by decide +kernel
theorem dX4_worst_7 : decode cX4_worst 7 = .ok (.ifCond .eq 12, 3) := by decide +kernel
theorem dX4_worst_10 : decode cX4_worst 10 = .ok (.iload_n 2, 1) := by decide +kernel
theorem dX4_worst_11 : decode cX4_worst 11 = .ok (.iconst 0, 1) := by decide +kernel
theorem dX4_worst_12 : decode cX4_worst 12 = .ok (.iconst 1, 1) := by decide +kernel
theorem dX4_worst_13 : decode cX4_worst 13 = .ok (.invokestatic 75, 3) := by decide +kernel
theorem dX4_worst_16 : decode cX4_worst 16 = .ok (.ifCond .ne 6, 3) := by decide +kernel
theorem dX4_worst_19 : decode cX4_worst 19 = .ok (.ldc 79, 2) := by decide +kernel
theorem dX4_worst_21 : decode cX4_worst 21 = .ok (.ireturn, 1) := by decide +kernel
theorem dX4_worst_22 : decode cX4_worst 22 = .ok (.aload_n 0, 1) := by decide +kernel
theorem dX4_worst_23 : decode cX4_worst 23 = .ok (.getfield 112, 3) := by decide +kernel
theorem dX4_worst_26 : decode cX4_worst 26 = .ok (.ifCond .ne 8, 3) := by decide +kernel
theorem dX4_worst_29 : decode cX4_worst 29 = .ok (.ldc 111, 2) := by decide +kernel
theorem dX4_worst_31 : decode cX4_worst 31 = .ok (.goto 9, 3) := by decide +kernel
theorem dX4_worst_34 : decode cX4_worst 34 = .ok (.aload_n 0, 1) := by decide +kernel
theorem dX4_worst_35 : decode cX4_worst 35 = .ok (.iload_n 1, 1) := by decide +kernel
theorem dX4_worst_36 : decode cX4_worst 36 = .ok (.iload_n 2, 1) := by decide +kernel
theorem dX4_worst_37 : decode cX4_worst 37 = .ok (.invokevirtual 209, 3) := by decide +kernel
theorem dX4_worst_40 : decode cX4_worst 40 = .ok (.ireturn, 1) := by decide +kernel
set_option maxRecDepth 20000 in
theorem ggX4_besideOf_X4_areBeside : GoodIn wsX4_besideOf wsX4_areBeside := goodIn_r _ [6, 7, 8, 9, 10, 11, 5, 12, 1, 13, 14, 15, 16, 17, 18, 19, 20, 21, 22, 23, 24, 25, 26, 27, 28, 29, 30, 31, 32, 33, 34, 35, 36, 37, 38, 39, 40, 41, 42, 43, 44, 45, 46, 47, 48, 49, 50, 51, 52, 53, 54] (by decide +kernel) (by decide +kernel)
set_option maxRecDepth 20000 in
theorem gX4_besideOf_X4_areBeside : GoodIn wsX4_besideOf (wsV RX4 140 RX4 yX4_areBeside wsX4_areBeside) := goodIn_app (goodIn_of _ (by decide +kernel)) ggX4_besideOf_X4_areBeside
theorem dX4_besideOf_0 : decode cX4_besideOf 0 = .ok (.iconst 0, 1) := by decide +kernel
theorem dX4_besideOf_1 : decode cX4_besideOf 1 = .ok (.istore_n 2, 1) := by decide +kernel
theorem dX4_besideOf_2 : decode cX4_besideOf 2 = .ok (.iconst 0, 1) := by decide +kernel
theorem dX4_besideOf_3 : decode cX4_besideOf 3 = .ok (.istore_n 3, 1) := by decide +kernel
theorem dX4_besideOf_4 : decode cX4_besideOf 4 = .ok (.iload_n 3, 1) := by decide +kernel
theorem dX4_besideOf_5 : decode cX4_besideOf 5 = .ok (.aload_n 0, 1) := by decide +kernel
theorem dX4_besideOf_6 : decode cX4_besideOf 6 = .ok (.getfield 112, 3) := by decide +kernel
theorem dX4_besideOf_9 : decode cX4_besideOf 9 = .ok (.if_icmp .ge 26, 3) := by decide +kernel
theorem dX4_besideOf_12 : decode cX4_besideOf 12 = .ok (.iload_n 2, 1) := by decide +kernel
theorem dX4_besideOf_13 : decode cX4_besideOf 13 = .ok (.aload_n 0, 1) := by decide +kernel
theorem dX4_besideOf_14 : decode cX4_besideOf 14 = .ok (.iload_n 1, 1) := by decide +kernel
theorem dX4_besideOf_15 : decode cX4_besideOf 15 = .ok (.iload_n 3, 1) := by decide +kernel
theorem dX4_besideOf_16 : decode cX4_besideOf 16 = .ok (.invokevirtual 140, 3) := by decide +kernel
theorem dX4_besideOf_19 : decode cX4_besideOf 19 = .ok (.ifCond .eq 7, 3) := by decide +kernel
theorem dX4_besideOf_22 : decode cX4_besideOf 22 = .ok (.iconst 1, 1) := by decide +kernel
theorem dX4_besideOf_23 : decode cX4_besideOf 23 = .ok (.goto 4, 3) := by decide +kernel
theorem dX4_besideOf_26 : decode cX4_besideOf 26 = .ok (.iconst 0, 1) := by decide +kernel
theorem dX4_besideOf_27 : decode cX4_besideOf 27 = .ok (.iadd, 1) := by decide +kernel
theorem dX4_besideOf_28 : decode cX4_besideOf 28 = .ok (.istore_n 2, 1) := by decide +kernel
theorem dX4_besideOf_29 : decode cX4_besideOf 29 = .ok (.iinc 3 1, 3) := by decide +kernel
theorem dX4_besideOf_32 : decode cX4_besideOf 32 = .ok (.goto (-28), 3) := by decide +kernel
theorem dX4_besideOf_35 : decode cX4_besideOf 35 = .ok (.iload_n 2, 1) := by decide +kernel
theorem dX4_besideOf_36 : decode cX4_besideOf 36 = .ok (.ireturn, 1) := by decide +kernel
set_option maxRecDepth 20000 in
theorem ggX4_nodeNow_X4_besideOf : GoodIn wsX4_nodeNow wsX4_besideOf := goodIn_r _ [9, 10, 11, 12, 13, 8, 14, 15, 16, 17, 18, 19, 20, 21, 22, 23, 50, 51, 52, 53, 54, 55, 56, 57, 58, 59, 60, 61, 62, 63, 64, 65, 66, 67, 68, 69, 70, 71, 72, 73, 74, 75, 76, 77, 78, 79, 80, 81, 82, 83, 84, 85, 86, 87, 88] (by decide +kernel) (by decide +kernel)
set_option maxRecDepth 20000 in
theorem gX4_nodeNow_X4_besideOf : GoodIn wsX4_nodeNow (wsV RX4 212 RX4 yX4_besideOf wsX4_besideOf) := goodIn_app (goodIn_of _ (by decide +kernel)) ggX4_nodeNow_X4_besideOf
set_option maxRecDepth 20000 in
theorem ggX4_nodeNow_X4_off : GoodIn wsX4_nodeNow wsX4_off := goodIn_r _ [27, 16, 10, 1, 11, 12, 13, 8, 14, 15, 17, 18, 19, 20, 21, 22, 23, 28, 29, 30, 31, 32, 50, 51, 52, 53, 54, 55, 56, 57, 58, 59, 60, 61, 62, 63, 64, 65, 66, 67, 68, 69, 70, 71, 72, 73, 74, 75, 76, 77, 78, 79, 80, 81, 82, 83, 84, 85, 86, 87, 88] (by decide +kernel) (by decide +kernel)
set_option maxRecDepth 20000 in
theorem gX4_nodeNow_X4_off : GoodIn wsX4_nodeNow (wsV RX4 151 RX4 yX4_off wsX4_off) := goodIn_app (goodIn_of _ (by decide +kernel)) ggX4_nodeNow_X4_off
set_option maxRecDepth 20000 in
theorem ggX4_nodeNow_X4_upOf : GoodIn wsX4_nodeNow wsX4_upOf := goodIn_r _ [36, 16, 24, 25, 26, 8, 27, 10, 1, 11, 12, 13, 14, 15, 17, 18, 19, 20, 21, 22, 23, 28, 29, 30, 31, 32, 37, 38, 39, 40, 41, 42, 43, 44, 45, 50, 51, 52, 53, 54, 55, 56, 57, 58, 59, 60, 61, 62, 63, 64, 65, 66, 67, 68, 69, 70, 71, 72, 73, 74, 75, 76, 77, 78, 79, 80, 81, 82, 83, 84, 85, 86, 87, 88] (by decide +kernel) (by decide +kernel)
set_option maxRecDepth 20000 in
theorem gX4_nodeNow_X4_upOf : GoodIn wsX4_nodeNow (wsV RX4 159 RX4 yX4_upOf wsX4_upOf) := goodIn_app (goodIn_of _ (by decide +kernel)) ggX4_nodeNow_X4_upOf
set_option maxRecDepth 20000 in
theorem ggX4_nodeNow_X4_downOf : GoodIn wsX4_nodeNow wsX4_downOf := goodIn_r _ [49, 16, 24, 25, 26, 8, 27, 10, 1, 11, 12, 13, 14, 15, 17, 18, 19, 20, 21, 22, 23, 28, 29, 30, 31, 32, 37, 38, 39, 40, 41, 42, 43, 44, 45, 50, 51, 52, 53, 54, 55, 56, 57, 58, 59, 60, 61, 62, 63, 64, 65, 66, 67, 68, 69, 70, 71, 72, 73, 74, 75, 76, 77, 78, 79, 80, 81, 82, 83, 84, 85, 86, 87, 88] (by decide +kernel) (by decide +kernel)
set_option maxRecDepth 20000 in
theorem gX4_nodeNow_X4_downOf : GoodIn wsX4_nodeNow (wsV RX4 163 RX4 yX4_downOf wsX4_downOf) := goodIn_app (goodIn_of _ (by decide +kernel)) ggX4_nodeNow_X4_downOf
theorem dX4_nodeNow_0 : decode cX4_nodeNow 0 = .ok (.iload_n 2, 1) := by decide +kernel
theorem dX4_nodeNow_1 : decode cX4_nodeNow 1 = .ok (.tableswitch 110 0 7 #[47, 56, 63, 78, 84, 91, 98, 104], 47) := by decide +kernel
theorem dX4_nodeNow_48 : decode cX4_nodeNow 48 = .ok (.aload_n 0, 1) := by decide +kernel
theorem dX4_nodeNow_49 : decode cX4_nodeNow 49 = .ok (.getfield 22, 3) := by decide +kernel
theorem dX4_nodeNow_52 : decode cX4_nodeNow 52 = .ok (.iconst 4, 1) := by decide +kernel
theorem dX4_nodeNow_53 : decode cX4_nodeNow 53 = .ok (.iload_n 1, 1) := by decide +kernel
theorem dX4_nodeNow_54 : decode cX4_nodeNow 54 = .ok (.imul, 1) := by decide +kernel
theorem dX4_nodeNow_55 : decode cX4_nodeNow 55 = .ok (.iaload, 1) := by decide +kernel
theorem dX4_nodeNow_56 : decode cX4_nodeNow 56 = .ok (.ireturn, 1) := by decide +kernel
theorem dX4_nodeNow_57 : decode cX4_nodeNow 57 = .ok (.aload_n 0, 1) := by decide +kernel
theorem dX4_nodeNow_58 : decode cX4_nodeNow 58 = .ok (.getfield 19, 3) := by decide +kernel
theorem dX4_nodeNow_61 : decode cX4_nodeNow 61 = .ok (.iload_n 1, 1) := by decide +kernel
theorem dX4_nodeNow_62 : decode cX4_nodeNow 62 = .ok (.iaload, 1) := by decide +kernel
theorem dX4_nodeNow_63 : decode cX4_nodeNow 63 = .ok (.ireturn, 1) := by decide +kernel
theorem dX4_nodeNow_64 : decode cX4_nodeNow 64 = .ok (.aload_n 0, 1) := by decide +kernel
theorem dX4_nodeNow_65 : decode cX4_nodeNow 65 = .ok (.getfield 25, 3) := by decide +kernel
theorem dX4_nodeNow_68 : decode cX4_nodeNow 68 = .ok (.iload_n 1, 1) := by decide +kernel
theorem dX4_nodeNow_69 : decode cX4_nodeNow 69 = .ok (.baload, 1) := by decide +kernel
theorem dX4_nodeNow_70 : decode cX4_nodeNow 70 = .ok (.ifCond .eq 7, 3) := by decide +kernel
theorem dX4_nodeNow_73 : decode cX4_nodeNow 73 = .ok (.iconst 1, 1) := by decide +kernel
theorem dX4_nodeNow_74 : decode cX4_nodeNow 74 = .ok (.goto 4, 3) := by decide +kernel
theorem dX4_nodeNow_77 : decode cX4_nodeNow 77 = .ok (.iconst 0, 1) := by decide +kernel
theorem dX4_nodeNow_78 : decode cX4_nodeNow 78 = .ok (.ireturn, 1) := by decide +kernel
theorem dX4_nodeNow_79 : decode cX4_nodeNow 79 = .ok (.aload_n 0, 1) := by decide +kernel
theorem dX4_nodeNow_80 : decode cX4_nodeNow 80 = .ok (.iload_n 1, 1) := by decide +kernel
theorem dX4_nodeNow_81 : decode cX4_nodeNow 81 = .ok (.invokevirtual 212, 3) := by decide +kernel
theorem dX4_nodeNow_84 : decode cX4_nodeNow 84 = .ok (.ireturn, 1) := by decide +kernel
theorem dX4_nodeNow_85 : decode cX4_nodeNow 85 = .ok (.aload_n 0, 1) := by decide +kernel
theorem dX4_nodeNow_86 : decode cX4_nodeNow 86 = .ok (.iload_n 1, 1) := by decide +kernel
theorem dX4_nodeNow_87 : decode cX4_nodeNow 87 = .ok (.iconst 1, 1) := by decide +kernel
theorem dX4_nodeNow_88 : decode cX4_nodeNow 88 = .ok (.invokevirtual 151, 3) := by decide +kernel
theorem dX4_nodeNow_91 : decode cX4_nodeNow 91 = .ok (.ireturn, 1) := by decide +kernel
theorem dX4_nodeNow_92 : decode cX4_nodeNow 92 = .ok (.aload_n 0, 1) := by decide +kernel
theorem dX4_nodeNow_93 : decode cX4_nodeNow 93 = .ok (.iload_n 1, 1) := by decide +kernel
theorem dX4_nodeNow_94 : decode cX4_nodeNow 94 = .ok (.iconst 0, 1) := by decide +kernel
theorem dX4_nodeNow_95 : decode cX4_nodeNow 95 = .ok (.invokevirtual 151, 3) := by decide +kernel
theorem dX4_nodeNow_98 : decode cX4_nodeNow 98 = .ok (.ireturn, 1) := by decide +kernel
theorem dX4_nodeNow_99 : decode cX4_nodeNow 99 = .ok (.aload_n 0, 1) := by decide +kernel
theorem dX4_nodeNow_100 : decode cX4_nodeNow 100 = .ok (.iload_n 1, 1) := by decide +kernel
theorem dX4_nodeNow_101 : decode cX4_nodeNow 101 = .ok (.invokevirtual 159, 3) := by decide +kernel
theorem dX4_nodeNow_104 : decode cX4_nodeNow 104 = .ok (.ireturn, 1) := by decide +kernel
theorem dX4_nodeNow_105 : decode cX4_nodeNow 105 = .ok (.aload_n 0, 1) := by decide +kernel
theorem dX4_nodeNow_106 : decode cX4_nodeNow 106 = .ok (.iload_n 1, 1) := by decide +kernel
theorem dX4_nodeNow_107 : decode cX4_nodeNow 107 = .ok (.invokevirtual 163, 3) := by decide +kernel
theorem dX4_nodeNow_110 : decode cX4_nodeNow 110 = .ok (.ireturn, 1) := by decide +kernel
theorem dX4_nodeNow_111 : decode cX4_nodeNow 111 = .ok (.aload_n 0, 1) := by decide +kernel
theorem dX4_nodeNow_112 : decode cX4_nodeNow 112 = .ok (.getfield 29, 3) := by decide +kernel
theorem dX4_nodeNow_115 : decode cX4_nodeNow 115 = .ok (.iload_n 1, 1) := by decide +kernel
theorem dX4_nodeNow_116 : decode cX4_nodeNow 116 = .ok (.iaload, 1) := by decide +kernel
theorem dX4_nodeNow_117 : decode cX4_nodeNow 117 = .ok (.ireturn, 1) := by decide +kernel
set_option maxRecDepth 20000 in
theorem ggX4_node_X4_isNode : GoodIn wsX4_node wsX4_isNode := goodIn_r _ [7, 8, 9, 10, 6, 11, 56, 57, 58, 59, 60, 61, 62, 63, 64, 65, 66, 67, 68, 69, 70, 71, 72, 73, 74, 75, 76, 77, 78, 79, 80, 81, 82, 83, 84, 85, 86, 87, 88, 89, 90, 91, 92, 93, 94] (by decide +kernel) (by decide +kernel)
set_option maxRecDepth 20000 in
theorem gX4_node_X4_isNode : GoodIn wsX4_node (wsV RX4 135 RX4 yX4_isNode wsX4_isNode) := goodIn_app (goodIn_of _ (by decide +kernel)) ggX4_node_X4_isNode
set_option maxRecDepth 20000 in
theorem ggX4_node_X4_within : GoodIn wsX4_node wsX4_within := goodIn_r _ [11] (by decide +kernel) (by decide +kernel)
set_option maxRecDepth 20000 in
theorem gX4_node_X4_within : GoodIn wsX4_node (va_wsS RX4 75 yX4_within wsX4_within) := goodIn_app (goodIn_of _ (by decide +kernel)) ggX4_node_X4_within
set_option maxRecDepth 20000 in
theorem ggX4_node_X4_nodeNow : GoodIn wsX4_node wsX4_nodeNow := goodIn_r _ [15, 16, 17, 18, 19, 20, 21, 22, 6, 23, 8, 24, 25, 26, 27, 28, 29, 3, 4, 5, 7, 9, 10, 11, 30, 31, 32, 33, 34, 35, 36, 37, 38, 39, 40, 41, 42, 43, 44, 45, 46, 47, 48, 49, 50, 51, 52, 53, 54, 55, 56, 57, 58, 59, 60, 61, 62, 63, 64, 65, 66, 67, 68, 69, 70, 71, 72, 73, 74, 75, 76, 77, 78, 79, 80, 81, 82, 83, 84, 85, 86, 87, 88, 89, 90, 91, 92, 93, 94] (by decide +kernel) (by decide +kernel)
set_option maxRecDepth 20000 in
theorem gX4_node_X4_nodeNow : GoodIn wsX4_node (wsV RX4 215 RX4 yX4_nodeNow wsX4_nodeNow) := goodIn_app (goodIn_of _ (by decide +kernel)) ggX4_node_X4_nodeNow
theorem dX4_node_0 : decode cX4_node 0 = .ok (.aload_n 0, 1) := by decide +kernel
theorem dX4_node_1 : decode cX4_node 1 = .ok (.iload_n 1, 1) := by decide +kernel
theorem dX4_node_2 : decode cX4_node 2 = .ok (.invokevirtual 135, 3) := by decide +kernel
theorem dX4_node_5 : decode cX4_node 5 = .ok (.ifCond .ne 6, 3) := by decide +kernel
theorem dX4_node_8 : decode cX4_node 8 = .ok (.ldc 138, 2) := by decide +kernel
theorem dX4_node_10 : decode cX4_node 10 = .ok (.ireturn, 1) := by decide +kernel
theorem dX4_node_11 : decode cX4_node 11 = .ok (.iload_n 2, 1) := by decide +kernel
theorem dX4_node_12 : decode cX4_node 12 = .ok (.iconst 0, 1) := by decide +kernel
theorem dX4_node_13 : decode cX4_node 13 = .ok (.bipush 8, 2) := by decide +kernel
theorem dX4_node_15 : decode cX4_node 15 = .ok (.invokestatic 75, 3) := by decide +kernel
theorem dX4_node_18 : decode cX4_node 18 = .ok (.ifCond .eq 12, 3) := by decide +kernel
theorem dX4_node_21 : decode cX4_node 21 = .ok (.aload_n 0, 1) := by decide +kernel
theorem dX4_node_22 : decode cX4_node 22 = .ok (.iload_n 1, 1) := by decide +kernel
theorem dX4_node_23 : decode cX4_node 23 = .ok (.iload_n 2, 1) := by decide +kernel
theorem dX4_node_24 : decode cX4_node 24 = .ok (.invokevirtual 215, 3) := by decide +kernel
theorem dX4_node_27 : decode cX4_node 27 = .ok (.goto 5, 3) := by decide +kernel
theorem dX4_node_30 : decode cX4_node 30 = .ok (.ldc 79, 2) := by decide +kernel
theorem dX4_node_32 : decode cX4_node 32 = .ok (.ireturn, 1) := by decide +kernel
set_option maxRecDepth 20000 in
theorem ggX4_linkNow_X4_guess : GoodIn wsX4_linkNow wsX4_guess := goodIn_r _ [7, 1, 8, 2, 13, 14, 15, 16, 17, 18, 19, 20, 21, 22, 23, 24, 25, 26, 27, 28, 29, 30, 31, 32, 33, 34, 35, 36, 37, 38, 39, 40, 41, 42, 43, 44, 45, 46, 47, 48, 49, 50, 51] (by decide +kernel) (by decide +kernel)
set_option maxRecDepth 20000 in
theorem gX4_linkNow_X4_guess : GoodIn wsX4_linkNow (wsV RX4 144 RX4 yX4_guess wsX4_guess) := goodIn_app (goodIn_of _ (by decide +kernel)) ggX4_linkNow_X4_guess
set_option maxRecDepth 20000 in
theorem ggX4_linkNow_X4_skewOf : GoodIn wsX4_linkNow wsX4_skewOf := goodIn_r _ [12, 8, 13, 14, 15, 16, 17, 18, 19, 20, 21, 22, 23, 24, 25, 26, 27, 28, 29, 30, 31, 32, 33, 34, 35, 36, 37, 38, 39, 40, 41, 42, 43, 44, 45, 46, 47, 48, 49, 50, 51] (by decide +kernel) (by decide +kernel)
set_option maxRecDepth 20000 in
theorem gX4_linkNow_X4_skewOf : GoodIn wsX4_linkNow (wsV RX4 175 RX4 yX4_skewOf wsX4_skewOf) := goodIn_app (goodIn_of _ (by decide +kernel)) ggX4_linkNow_X4_skewOf
theorem dX4_linkNow_0 : decode cX4_linkNow 0 = .ok (.iload_n 3, 1) := by decide +kernel
theorem dX4_linkNow_1 : decode cX4_linkNow 1 = .ok (.ifCond .ne 17, 3) := by decide +kernel
theorem dX4_linkNow_4 : decode cX4_linkNow 4 = .ok (.aload_n 0, 1) := by decide +kernel
theorem dX4_linkNow_5 : decode cX4_linkNow 5 = .ok (.getfield 13, 3) := by decide +kernel
theorem dX4_linkNow_8 : decode cX4_linkNow 8 = .ok (.bipush 6, 2) := by decide +kernel
theorem dX4_linkNow_10 : decode cX4_linkNow 10 = .ok (.iload_n 1, 1) := by decide +kernel
theorem dX4_linkNow_11 : decode cX4_linkNow 11 = .ok (.imul, 1) := by decide +kernel
theorem dX4_linkNow_12 : decode cX4_linkNow 12 = .ok (.iload_n 2, 1) := by decide +kernel
theorem dX4_linkNow_13 : decode cX4_linkNow 13 = .ok (.iadd, 1) := by decide +kernel
theorem dX4_linkNow_14 : decode cX4_linkNow 14 = .ok (.iaload, 1) := by decide +kernel
theorem dX4_linkNow_15 : decode cX4_linkNow 15 = .ok (.goto 42, 3) := by decide +kernel
theorem dX4_linkNow_18 : decode cX4_linkNow 18 = .ok (.iload_n 3, 1) := by decide +kernel
theorem dX4_linkNow_19 : decode cX4_linkNow 19 = .ok (.iconst 1, 1) := by decide +kernel
theorem dX4_linkNow_20 : decode cX4_linkNow 20 = .ok (.if_icmp .ne 17, 3) := by decide +kernel
theorem dX4_linkNow_23 : decode cX4_linkNow 23 = .ok (.aload_n 0, 1) := by decide +kernel
theorem dX4_linkNow_24 : decode cX4_linkNow 24 = .ok (.getfield 16, 3) := by decide +kernel
theorem dX4_linkNow_27 : decode cX4_linkNow 27 = .ok (.bipush 6, 2) := by decide +kernel
theorem dX4_linkNow_29 : decode cX4_linkNow 29 = .ok (.iload_n 1, 1) := by decide +kernel
theorem dX4_linkNow_30 : decode cX4_linkNow 30 = .ok (.imul, 1) := by decide +kernel
theorem dX4_linkNow_31 : decode cX4_linkNow 31 = .ok (.iload_n 2, 1) := by decide +kernel
theorem dX4_linkNow_32 : decode cX4_linkNow 32 = .ok (.iadd, 1) := by decide +kernel
theorem dX4_linkNow_33 : decode cX4_linkNow 33 = .ok (.iaload, 1) := by decide +kernel
theorem dX4_linkNow_34 : decode cX4_linkNow 34 = .ok (.goto 23, 3) := by decide +kernel
theorem dX4_linkNow_37 : decode cX4_linkNow 37 = .ok (.iload_n 3, 1) := by decide +kernel
theorem dX4_linkNow_38 : decode cX4_linkNow 38 = .ok (.iconst 2, 1) := by decide +kernel
theorem dX4_linkNow_39 : decode cX4_linkNow 39 = .ok (.if_icmp .ne 12, 3) := by decide +kernel
theorem dX4_linkNow_42 : decode cX4_linkNow 42 = .ok (.aload_n 0, 1) := by decide +kernel
theorem dX4_linkNow_43 : decode cX4_linkNow 43 = .ok (.iload_n 1, 1) := by decide +kernel
theorem dX4_linkNow_44 : decode cX4_linkNow 44 = .ok (.iload_n 2, 1) := by decide +kernel
theorem dX4_linkNow_45 : decode cX4_linkNow 45 = .ok (.invokevirtual 144, 3) := by decide +kernel
theorem dX4_linkNow_48 : decode cX4_linkNow 48 = .ok (.goto 9, 3) := by decide +kernel
theorem dX4_linkNow_51 : decode cX4_linkNow 51 = .ok (.aload_n 0, 1) := by decide +kernel
theorem dX4_linkNow_52 : decode cX4_linkNow 52 = .ok (.iload_n 1, 1) := by decide +kernel
theorem dX4_linkNow_53 : decode cX4_linkNow 53 = .ok (.iload_n 2, 1) := by decide +kernel
theorem dX4_linkNow_54 : decode cX4_linkNow 54 = .ok (.invokevirtual 175, 3) := by decide +kernel
theorem dX4_linkNow_57 : decode cX4_linkNow 57 = .ok (.ireturn, 1) := by decide +kernel
set_option maxRecDepth 20000 in
theorem ggX4_link_X4_areBeside : GoodIn wsX4_link wsX4_areBeside := goodIn_r _ [7, 8, 9, 10, 11, 12, 6, 13, 14, 15, 16, 17, 32, 33, 34, 35, 36, 37, 38, 39, 40, 41, 42, 43, 44, 45, 46, 47, 48, 49, 50, 51, 52, 53, 54, 55, 56, 57, 58, 59, 60, 61, 62, 63, 64, 65, 66, 67, 68, 69, 70] (by decide +kernel) (by decide +kernel)
set_option maxRecDepth 20000 in
theorem gX4_link_X4_areBeside : GoodIn wsX4_link (wsV RX4 140 RX4 yX4_areBeside wsX4_areBeside) := goodIn_app (goodIn_of _ (by decide +kernel)) ggX4_link_X4_areBeside
set_option maxRecDepth 20000 in
theorem ggX4_link_X4_within : GoodIn wsX4_link wsX4_within := goodIn_r _ [17] (by decide +kernel) (by decide +kernel)
set_option maxRecDepth 20000 in
theorem gX4_link_X4_within : GoodIn wsX4_link (va_wsS RX4 75 yX4_within wsX4_within) := goodIn_app (goodIn_of _ (by decide +kernel)) ggX4_link_X4_within
set_option maxRecDepth 20000 in
theorem ggX4_link_X4_linkNow : GoodIn wsX4_link wsX4_linkNow := goodIn_r _ [21, 8, 22, 23, 24, 25, 6, 26, 27, 28, 29, 30, 31, 32, 33, 34, 35, 36, 37, 38, 39, 40, 41, 42, 43, 44, 45, 46, 47, 48, 49, 50, 51, 52, 53, 54, 55, 56, 57, 58, 59, 60, 61, 62, 63, 64, 65, 66, 67, 68, 69, 70] (by decide +kernel) (by decide +kernel)
set_option maxRecDepth 20000 in
theorem gX4_link_X4_linkNow : GoodIn wsX4_link (wsV RX4 218 RX4 yX4_linkNow wsX4_linkNow) := goodIn_app (goodIn_of _ (by decide +kernel)) ggX4_link_X4_linkNow
theorem dX4_link_0 : decode cX4_link 0 = .ok (.aload_n 0, 1) := by decide +kernel
theorem dX4_link_1 : decode cX4_link 1 = .ok (.iload_n 1, 1) := by decide +kernel
theorem dX4_link_2 : decode cX4_link 2 = .ok (.iload_n 2, 1) := by decide +kernel
theorem dX4_link_3 : decode cX4_link 3 = .ok (.invokevirtual 140, 3) := by decide +kernel
theorem dX4_link_6 : decode cX4_link 6 = .ok (.ifCond .ne 6, 3) := by decide +kernel
theorem dX4_link_9 : decode cX4_link 9 = .ok (.ldc 138, 2) := by decide +kernel
theorem dX4_link_11 : decode cX4_link 11 = .ok (.ireturn, 1) := by decide +kernel
theorem dX4_link_12 : decode cX4_link 12 = .ok (.iload_n 3, 1) := by decide +kernel
theorem dX4_link_13 : decode cX4_link 13 = .ok (.iconst 0, 1) := by decide +kernel
theorem dX4_link_14 : decode cX4_link 14 = .ok (.iconst 3, 1) := by decide +kernel
theorem dX4_link_15 : decode cX4_link 15 = .ok (.invokestatic 75, 3) := by decide +kernel
theorem dX4_link_18 : decode cX4_link 18 = .ok (.ifCond .eq 13, 3) := by decide +kernel
theorem dX4_link_21 : decode cX4_link 21 = .ok (.aload_n 0, 1) := by decide +kernel
theorem dX4_link_22 : decode cX4_link 22 = .ok (.iload_n 1, 1) := by decide +kernel
theorem dX4_link_23 : decode cX4_link 23 = .ok (.iload_n 2, 1) := by decide +kernel
theorem dX4_link_24 : decode cX4_link 24 = .ok (.iload_n 3, 1) := by decide +kernel
theorem dX4_link_25 : decode cX4_link 25 = .ok (.invokevirtual 218, 3) := by decide +kernel
theorem dX4_link_28 : decode cX4_link 28 = .ok (.goto 5, 3) := by decide +kernel
theorem dX4_link_31 : decode cX4_link 31 = .ok (.ldc 79, 2) := by decide +kernel
theorem dX4_link_33 : decode cX4_link 33 = .ok (.ireturn, 1) := by decide +kernel
theorem dX4_image_0 : decode cX4_image 0 = .ok (.aload_n 0, 1) := by decide +kernel
theorem dX4_image_1 : decode cX4_image 1 = .ok (.getfield 112, 3) := by decide +kernel
theorem dX4_image_4 : decode cX4_image 4 = .ok (.ifCond .ne 6, 3) := by decide +kernel
theorem dX4_image_7 : decode cX4_image 7 = .ok (.ldc 111, 2) := by decide +kernel
theorem dX4_image_9 : decode cX4_image 9 = .ok (.ireturn, 1) := by decide +kernel
end
section
theorem dX4_image_10 : decode cX4_image 10 = .ok (.aload_n 0, 1) := by decide +kernel
theorem dX4_image_11 : decode cX4_image 11 = .ok (.iconst 1, 1) := by decide +kernel
theorem dX4_image_12 : decode cX4_image 12 = .ok (.putfield 128, 3) := by decide +kernel
theorem dX4_image_15 : decode cX4_image 15 = .ok (.aload_n 0, 1) := by decide +kernel
theorem dX4_image_16 : decode cX4_image 16 = .ok (.aload_n 0, 1) := by decide +kernel
theorem dX4_image_17 : decode cX4_image 17 = .ok (.getfield 122, 3) := by decide +kernel
theorem dX4_image_20 : decode cX4_image 20 = .ok (.putfield 221, 3) := by decide +kernel
theorem dX4_image_23 : decode cX4_image 23 = .ok (.aload_n 0, 1) := by decide +kernel
theorem dX4_image_24 : decode cX4_image 24 = .ok (.aload_n 0, 1) := by decide +kernel
theorem dX4_image_25 : decode cX4_image 25 = .ok (.getfield 125, 3) := by decide +kernel
theorem dX4_image_28 : decode cX4_image 28 = .ok (.putfield 224, 3) := by decide +kernel
theorem dX4_image_31 : decode cX4_image 31 = .ok (.iconst 0, 1) := by decide +kernel
theorem dX4_image_32 : decode cX4_image 32 = .ok (.istore_n 1, 1) := by decide +kernel
theorem dX4_image_33 : decode cX4_image 33 = .ok (.iload_n 1, 1) := by decide +kernel
theorem dX4_image_34 : decode cX4_image 34 = .ok (.bipush 24, 2) := by decide +kernel
theorem dX4_image_36 : decode cX4_image 36 = .ok (.if_icmp .ge 21, 3) := by decide +kernel
theorem dX4_image_39 : decode cX4_image 39 = .ok (.aload_n 0, 1) := by decide +kernel
theorem dX4_image_40 : decode cX4_image 40 = .ok (.getfield 57, 3) := by decide +kernel
theorem dX4_image_43 : decode cX4_image 43 = .ok (.iload_n 1, 1) := by decide +kernel
theorem dX4_image_44 : decode cX4_image 44 = .ok (.aload_n 0, 1) := by decide +kernel
theorem dX4_image_45 : decode cX4_image 45 = .ok (.getfield 22, 3) := by decide +kernel
theorem dX4_image_48 : decode cX4_image 48 = .ok (.iload_n 1, 1) := by decide +kernel
theorem dX4_image_49 : decode cX4_image 49 = .ok (.iaload, 1) := by decide +kernel
theorem dX4_image_50 : decode cX4_image 50 = .ok (.iastore, 1) := by decide +kernel
theorem dX4_image_51 : decode cX4_image 51 = .ok (.iinc 1 1, 3) := by decide +kernel
theorem dX4_image_54 : decode cX4_image 54 = .ok (.goto (-21), 3) := by decide +kernel
theorem dX4_image_57 : decode cX4_image 57 = .ok (.iconst 0, 1) := by decide +kernel
theorem dX4_image_58 : decode cX4_image 58 = .ok (.istore_n 1, 1) := by decide +kernel
theorem dX4_image_59 : decode cX4_image 59 = .ok (.iload_n 1, 1) := by decide +kernel
theorem dX4_image_60 : decode cX4_image 60 = .ok (.bipush 36, 2) := by decide +kernel
theorem dX4_image_62 : decode cX4_image 62 = .ok (.if_icmp .ge 33, 3) := by decide +kernel
theorem dX4_image_65 : decode cX4_image 65 = .ok (.aload_n 0, 1) := by decide +kernel
theorem dX4_image_66 : decode cX4_image 66 = .ok (.getfield 63, 3) := by decide +kernel
theorem dX4_image_69 : decode cX4_image 69 = .ok (.iload_n 1, 1) := by decide +kernel
theorem dX4_image_70 : decode cX4_image 70 = .ok (.aload_n 0, 1) := by decide +kernel
theorem dX4_image_71 : decode cX4_image 71 = .ok (.getfield 16, 3) := by decide +kernel
theorem dX4_image_74 : decode cX4_image 74 = .ok (.iload_n 1, 1) := by decide +kernel
theorem dX4_image_75 : decode cX4_image 75 = .ok (.iaload, 1) := by decide +kernel
theorem dX4_image_76 : decode cX4_image 76 = .ok (.iastore, 1) := by decide +kernel
theorem dX4_image_77 : decode cX4_image 77 = .ok (.aload_n 0, 1) := by decide +kernel
theorem dX4_image_78 : decode cX4_image 78 = .ok (.getfield 66, 3) := by decide +kernel
theorem dX4_image_81 : decode cX4_image 81 = .ok (.iload_n 1, 1) := by decide +kernel
theorem dX4_image_82 : decode cX4_image 82 = .ok (.aload_n 0, 1) := by decide +kernel
theorem dX4_image_83 : decode cX4_image 83 = .ok (.getfield 13, 3) := by decide +kernel
theorem dX4_image_86 : decode cX4_image 86 = .ok (.iload_n 1, 1) := by decide +kernel
theorem dX4_image_87 : decode cX4_image 87 = .ok (.iaload, 1) := by decide +kernel
theorem dX4_image_88 : decode cX4_image 88 = .ok (.iastore, 1) := by decide +kernel
theorem dX4_image_89 : decode cX4_image 89 = .ok (.iinc 1 1, 3) := by decide +kernel
theorem dX4_image_92 : decode cX4_image 92 = .ok (.goto (-33), 3) := by decide +kernel
theorem dX4_image_95 : decode cX4_image 95 = .ok (.iconst 0, 1) := by decide +kernel
theorem dX4_image_96 : decode cX4_image 96 = .ok (.istore_n 1, 1) := by decide +kernel
theorem dX4_image_97 : decode cX4_image 97 = .ok (.iload_n 1, 1) := by decide +kernel
theorem dX4_image_98 : decode cX4_image 98 = .ok (.bipush 6, 2) := by decide +kernel
theorem dX4_image_100 : decode cX4_image 100 = .ok (.if_icmp .ge 45, 3) := by decide +kernel
theorem dX4_image_103 : decode cX4_image 103 = .ok (.aload_n 0, 1) := by decide +kernel
theorem dX4_image_104 : decode cX4_image 104 = .ok (.getfield 60, 3) := by decide +kernel
theorem dX4_image_107 : decode cX4_image 107 = .ok (.iload_n 1, 1) := by decide +kernel
theorem dX4_image_108 : decode cX4_image 108 = .ok (.aload_n 0, 1) := by decide +kernel
theorem dX4_image_109 : decode cX4_image 109 = .ok (.getfield 19, 3) := by decide +kernel
theorem dX4_image_112 : decode cX4_image 112 = .ok (.iload_n 1, 1) := by decide +kernel
theorem dX4_image_113 : decode cX4_image 113 = .ok (.iaload, 1) := by decide +kernel
theorem dX4_image_114 : decode cX4_image 114 = .ok (.iastore, 1) := by decide +kernel
theorem dX4_image_115 : decode cX4_image 115 = .ok (.aload_n 0, 1) := by decide +kernel
theorem dX4_image_116 : decode cX4_image 116 = .ok (.getfield 69, 3) := by decide +kernel
theorem dX4_image_119 : decode cX4_image 119 = .ok (.iload_n 1, 1) := by decide +kernel
theorem dX4_image_120 : decode cX4_image 120 = .ok (.aload_n 0, 1) := by decide +kernel
theorem dX4_image_121 : decode cX4_image 121 = .ok (.getfield 25, 3) := by decide +kernel
theorem dX4_image_124 : decode cX4_image 124 = .ok (.iload_n 1, 1) := by decide +kernel
theorem dX4_image_125 : decode cX4_image 125 = .ok (.baload, 1) := by decide +kernel
theorem dX4_image_126 : decode cX4_image 126 = .ok (.bastore, 1) := by decide +kernel
theorem dX4_image_127 : decode cX4_image 127 = .ok (.aload_n 0, 1) := by decide +kernel
theorem dX4_image_128 : decode cX4_image 128 = .ok (.getfield 72, 3) := by decide +kernel
theorem dX4_image_131 : decode cX4_image 131 = .ok (.iload_n 1, 1) := by decide +kernel
theorem dX4_image_132 : decode cX4_image 132 = .ok (.aload_n 0, 1) := by decide +kernel
theorem dX4_image_133 : decode cX4_image 133 = .ok (.getfield 29, 3) := by decide +kernel
theorem dX4_image_136 : decode cX4_image 136 = .ok (.iload_n 1, 1) := by decide +kernel
theorem dX4_image_137 : decode cX4_image 137 = .ok (.iaload, 1) := by decide +kernel
theorem dX4_image_138 : decode cX4_image 138 = .ok (.iastore, 1) := by decide +kernel
theorem dX4_image_139 : decode cX4_image 139 = .ok (.iinc 1 1, 3) := by decide +kernel
theorem dX4_image_142 : decode cX4_image 142 = .ok (.goto (-45), 3) := by decide +kernel
theorem dX4_image_145 : decode cX4_image 145 = .ok (.aload_n 0, 1) := by decide +kernel
theorem dX4_image_146 : decode cX4_image 146 = .ok (.getfield 122, 3) := by decide +kernel
theorem dX4_image_149 : decode cX4_image 149 = .ok (.ireturn, 1) := by decide +kernel
theorem dX4_restore_0 : decode cX4_restore 0 = .ok (.aload_n 0, 1) := by decide +kernel
theorem dX4_restore_1 : decode cX4_restore 1 = .ok (.getfield 128, 3) := by decide +kernel
theorem dX4_restore_4 : decode cX4_restore 4 = .ok (.ifCond .ne 6, 3) := by decide +kernel
theorem dX4_restore_7 : decode cX4_restore 7 = .ok (.ldc 111, 2) := by decide +kernel
theorem dX4_restore_9 : decode cX4_restore 9 = .ok (.ireturn, 1) := by decide +kernel
theorem dX4_restore_10 : decode cX4_restore 10 = .ok (.aload_n 0, 1) := by decide +kernel
theorem dX4_restore_11 : decode cX4_restore 11 = .ok (.aload_n 0, 1) := by decide +kernel
theorem dX4_restore_12 : decode cX4_restore 12 = .ok (.getfield 221, 3) := by decide +kernel
theorem dX4_restore_15 : decode cX4_restore 15 = .ok (.putfield 122, 3) := by decide +kernel
theorem dX4_restore_18 : decode cX4_restore 18 = .ok (.aload_n 0, 1) := by decide +kernel
theorem dX4_restore_19 : decode cX4_restore 19 = .ok (.aload_n 0, 1) := by decide +kernel
theorem dX4_restore_20 : decode cX4_restore 20 = .ok (.getfield 224, 3) := by decide +kernel
theorem dX4_restore_23 : decode cX4_restore 23 = .ok (.putfield 125, 3) := by decide +kernel
theorem dX4_restore_26 : decode cX4_restore 26 = .ok (.iconst 0, 1) := by decide +kernel
theorem dX4_restore_27 : decode cX4_restore 27 = .ok (.istore_n 1, 1) := by decide +kernel
theorem dX4_restore_28 : decode cX4_restore 28 = .ok (.iload_n 1, 1) := by decide +kernel
theorem dX4_restore_29 : decode cX4_restore 29 = .ok (.bipush 24, 2) := by decide +kernel
theorem dX4_restore_31 : decode cX4_restore 31 = .ok (.if_icmp .ge 21, 3) := by decide +kernel
theorem dX4_restore_34 : decode cX4_restore 34 = .ok (.aload_n 0, 1) := by decide +kernel
theorem dX4_restore_35 : decode cX4_restore 35 = .ok (.getfield 22, 3) := by decide +kernel
theorem dX4_restore_38 : decode cX4_restore 38 = .ok (.iload_n 1, 1) := by decide +kernel
theorem dX4_restore_39 : decode cX4_restore 39 = .ok (.aload_n 0, 1) := by decide +kernel
theorem dX4_restore_40 : decode cX4_restore 40 = .ok (.getfield 57, 3) := by decide +kernel
theorem dX4_restore_43 : decode cX4_restore 43 = .ok (.iload_n 1, 1) := by decide +kernel
theorem dX4_restore_44 : decode cX4_restore 44 = .ok (.iaload, 1) := by decide +kernel
theorem dX4_restore_45 : decode cX4_restore 45 = .ok (.iastore, 1) := by decide +kernel
theorem dX4_restore_46 : decode cX4_restore 46 = .ok (.iinc 1 1, 3) := by decide +kernel
theorem dX4_restore_49 : decode cX4_restore 49 = .ok (.goto (-21), 3) := by decide +kernel
theorem dX4_restore_52 : decode cX4_restore 52 = .ok (.iconst 0, 1) := by decide +kernel
theorem dX4_restore_53 : decode cX4_restore 53 = .ok (.istore_n 1, 1) := by decide +kernel
theorem dX4_restore_54 : decode cX4_restore 54 = .ok (.iload_n 1, 1) := by decide +kernel
theorem dX4_restore_55 : decode cX4_restore 55 = .ok (.bipush 36, 2) := by decide +kernel
theorem dX4_restore_57 : decode cX4_restore 57 = .ok (.if_icmp .ge 33, 3) := by decide +kernel
theorem dX4_restore_60 : decode cX4_restore 60 = .ok (.aload_n 0, 1) := by decide +kernel
theorem dX4_restore_61 : decode cX4_restore 61 = .ok (.getfield 16, 3) := by decide +kernel
theorem dX4_restore_64 : decode cX4_restore 64 = .ok (.iload_n 1, 1) := by decide +kernel
theorem dX4_restore_65 : decode cX4_restore 65 = .ok (.aload_n 0, 1) := by decide +kernel
theorem dX4_restore_66 : decode cX4_restore 66 = .ok (.getfield 63, 3) := by decide +kernel
theorem dX4_restore_69 : decode cX4_restore 69 = .ok (.iload_n 1, 1) := by decide +kernel
theorem dX4_restore_70 : decode cX4_restore 70 = .ok (.iaload, 1) := by decide +kernel
theorem dX4_restore_71 : decode cX4_restore 71 = .ok (.iastore, 1) := by decide +kernel
theorem dX4_restore_72 : decode cX4_restore 72 = .ok (.aload_n 0, 1) := by decide +kernel
theorem dX4_restore_73 : decode cX4_restore 73 = .ok (.getfield 13, 3) := by decide +kernel
theorem dX4_restore_76 : decode cX4_restore 76 = .ok (.iload_n 1, 1) := by decide +kernel
theorem dX4_restore_77 : decode cX4_restore 77 = .ok (.aload_n 0, 1) := by decide +kernel
theorem dX4_restore_78 : decode cX4_restore 78 = .ok (.getfield 66, 3) := by decide +kernel
theorem dX4_restore_81 : decode cX4_restore 81 = .ok (.iload_n 1, 1) := by decide +kernel
theorem dX4_restore_82 : decode cX4_restore 82 = .ok (.iaload, 1) := by decide +kernel
theorem dX4_restore_83 : decode cX4_restore 83 = .ok (.iastore, 1) := by decide +kernel
theorem dX4_restore_84 : decode cX4_restore 84 = .ok (.iinc 1 1, 3) := by decide +kernel
theorem dX4_restore_87 : decode cX4_restore 87 = .ok (.goto (-33), 3) := by decide +kernel
theorem dX4_restore_90 : decode cX4_restore 90 = .ok (.iconst 0, 1) := by decide +kernel
theorem dX4_restore_91 : decode cX4_restore 91 = .ok (.istore_n 1, 1) := by decide +kernel
theorem dX4_restore_92 : decode cX4_restore 92 = .ok (.iload_n 1, 1) := by decide +kernel
theorem dX4_restore_93 : decode cX4_restore 93 = .ok (.bipush 6, 2) := by decide +kernel
theorem dX4_restore_95 : decode cX4_restore 95 = .ok (.if_icmp .ge 45, 3) := by decide +kernel
theorem dX4_restore_98 : decode cX4_restore 98 = .ok (.aload_n 0, 1) := by decide +kernel
theorem dX4_restore_99 : decode cX4_restore 99 = .ok (.getfield 19, 3) := by decide +kernel
theorem dX4_restore_102 : decode cX4_restore 102 = .ok (.iload_n 1, 1) := by decide +kernel
theorem dX4_restore_103 : decode cX4_restore 103 = .ok (.aload_n 0, 1) := by decide +kernel
theorem dX4_restore_104 : decode cX4_restore 104 = .ok (.getfield 60, 3) := by decide +kernel
theorem dX4_restore_107 : decode cX4_restore 107 = .ok (.iload_n 1, 1) := by decide +kernel
theorem dX4_restore_108 : decode cX4_restore 108 = .ok (.iaload, 1) := by decide +kernel
theorem dX4_restore_109 : decode cX4_restore 109 = .ok (.iastore, 1) := by decide +kernel
theorem dX4_restore_110 : decode cX4_restore 110 = .ok (.aload_n 0, 1) := by decide +kernel
theorem dX4_restore_111 : decode cX4_restore 111 = .ok (.getfield 25, 3) := by decide +kernel
theorem dX4_restore_114 : decode cX4_restore 114 = .ok (.iload_n 1, 1) := by decide +kernel
theorem dX4_restore_115 : decode cX4_restore 115 = .ok (.aload_n 0, 1) := by decide +kernel
theorem dX4_restore_116 : decode cX4_restore 116 = .ok (.getfield 69, 3) := by decide +kernel
theorem dX4_restore_119 : decode cX4_restore 119 = .ok (.iload_n 1, 1) := by decide +kernel
theorem dX4_restore_120 : decode cX4_restore 120 = .ok (.baload, 1) := by decide +kernel
theorem dX4_restore_121 : decode cX4_restore 121 = .ok (.bastore, 1) := by decide +kernel
theorem dX4_restore_122 : decode cX4_restore 122 = .ok (.aload_n 0, 1) := by decide +kernel
theorem dX4_restore_123 : decode cX4_restore 123 = .ok (.getfield 29, 3) := by decide +kernel
theorem dX4_restore_126 : decode cX4_restore 126 = .ok (.iload_n 1, 1) := by decide +kernel
theorem dX4_restore_127 : decode cX4_restore 127 = .ok (.aload_n 0, 1) := by decide +kernel
theorem dX4_restore_128 : decode cX4_restore 128 = .ok (.getfield 72, 3) := by decide +kernel
theorem dX4_restore_131 : decode cX4_restore 131 = .ok (.iload_n 1, 1) := by decide +kernel
theorem dX4_restore_132 : decode cX4_restore 132 = .ok (.iaload, 1) := by decide +kernel
theorem dX4_restore_133 : decode cX4_restore 133 = .ok (.iastore, 1) := by decide +kernel
theorem dX4_restore_134 : decode cX4_restore 134 = .ok (.iinc 1 1, 3) := by decide +kernel
theorem dX4_restore_137 : decode cX4_restore 137 = .ok (.goto (-45), 3) := by decide +kernel
theorem dX4_restore_140 : decode cX4_restore 140 = .ok (.aload_n 0, 1) := by decide +kernel
theorem dX4_restore_141 : decode cX4_restore 141 = .ok (.getfield 122, 3) := by decide +kernel
theorem dX4_restore_144 : decode cX4_restore 144 = .ok (.ireturn, 1) := by decide +kernel
theorem dX4_fastMany_0 : decode cX4_fastMany 0 = .ok (.iconst 0, 1) := by decide +kernel
theorem dX4_fastMany_1 : decode cX4_fastMany 1 = .ok (.istore_n 1, 1) := by decide +kernel
theorem dX4_fastMany_2 : decode cX4_fastMany 2 = .ok (.iconst 0, 1) := by decide +kernel
theorem dX4_fastMany_3 : decode cX4_fastMany 3 = .ok (.istore_n 2, 1) := by decide +kernel
theorem dX4_fastMany_4 : decode cX4_fastMany 4 = .ok (.iload_n 2, 1) := by decide +kernel
theorem dX4_fastMany_5 : decode cX4_fastMany 5 = .ok (.aload_n 0, 1) := by decide +kernel
theorem dX4_fastMany_6 : decode cX4_fastMany 6 = .ok (.getfield 112, 3) := by decide +kernel
theorem dX4_fastMany_9 : decode cX4_fastMany 9 = .ok (.if_icmp .ge 26, 3) := by decide +kernel
theorem dX4_fastMany_12 : decode cX4_fastMany 12 = .ok (.iload_n 1, 1) := by decide +kernel
theorem dX4_fastMany_13 : decode cX4_fastMany 13 = .ok (.aload_n 0, 1) := by decide +kernel
theorem dX4_fastMany_14 : decode cX4_fastMany 14 = .ok (.getfield 25, 3) := by decide +kernel
theorem dX4_fastMany_17 : decode cX4_fastMany 17 = .ok (.iload_n 2, 1) := by decide +kernel
theorem dX4_fastMany_18 : decode cX4_fastMany 18 = .ok (.baload, 1) := by decide +kernel
theorem dX4_fastMany_19 : decode cX4_fastMany 19 = .ok (.ifCond .eq 7, 3) := by decide +kernel
theorem dX4_fastMany_22 : decode cX4_fastMany 22 = .ok (.iconst 1, 1) := by decide +kernel
theorem dX4_fastMany_23 : decode cX4_fastMany 23 = .ok (.goto 4, 3) := by decide +kernel
theorem dX4_fastMany_26 : decode cX4_fastMany 26 = .ok (.iconst 0, 1) := by decide +kernel
theorem dX4_fastMany_27 : decode cX4_fastMany 27 = .ok (.iadd, 1) := by decide +kernel
theorem dX4_fastMany_28 : decode cX4_fastMany 28 = .ok (.istore_n 1, 1) := by decide +kernel
theorem dX4_fastMany_29 : decode cX4_fastMany 29 = .ok (.iinc 2 1, 3) := by decide +kernel
theorem dX4_fastMany_32 : decode cX4_fastMany 32 = .ok (.goto (-28), 3) := by decide +kernel
theorem dX4_fastMany_35 : decode cX4_fastMany 35 = .ok (.iload_n 1, 1) := by decide +kernel
theorem dX4_fastMany_36 : decode cX4_fastMany 36 = .ok (.ireturn, 1) := by decide +kernel
set_option maxRecDepth 20000 in
theorem ggX4_howMany_X4_fastMany : GoodIn wsX4_howMany wsX4_fastMany := goodIn_r _ [14, 1, 15, 16, 17, 18, 19, 20, 21, 22, 23, 24, 25, 26, 27, 28, 29, 30, 31, 32, 33, 34, 35, 36, 37, 38, 39, 40, 41, 42, 43, 44, 45, 46, 47, 48, 49, 50, 51, 52, 53, 54] (by decide +kernel) (by decide +kernel)
set_option maxRecDepth 20000 in
theorem gX4_howMany_X4_fastMany : GoodIn wsX4_howMany (wsV RX4 227 RX4 yX4_fastMany wsX4_fastMany) := goodIn_app (goodIn_of _ (by decide +kernel)) ggX4_howMany_X4_fastMany
theorem dX4_howMany_0 : decode cX4_howMany 0 = .ok (.iload_n 1, 1) := by decide +kernel
theorem dX4_howMany_1 : decode cX4_howMany 1 = .ok (.tableswitch 96 0 8 #[51, 56, 61, 66, 71, 76, 81, 86, 91], 51) := by decide +kernel
theorem dX4_howMany_52 : decode cX4_howMany 52 = .ok (.aload_n 0, 1) := by decide +kernel
theorem dX4_howMany_53 : decode cX4_howMany 53 = .ok (.getfield 112, 3) := by decide +kernel
theorem dX4_howMany_56 : decode cX4_howMany 56 = .ok (.ireturn, 1) := by decide +kernel
theorem dX4_howMany_57 : decode cX4_howMany 57 = .ok (.aload_n 0, 1) := by decide +kernel
theorem dX4_howMany_58 : decode cX4_howMany 58 = .ok (.getfield 115, 3) := by decide +kernel
theorem dX4_howMany_61 : decode cX4_howMany 61 = .ok (.ireturn, 1) := by decide +kernel
theorem dX4_howMany_62 : decode cX4_howMany 62 = .ok (.aload_n 0, 1) := by decide +kernel
theorem dX4_howMany_63 : decode cX4_howMany 63 = .ok (.getfield 80, 3) := by decide +kernel
theorem dX4_howMany_66 : decode cX4_howMany 66 = .ok (.ireturn, 1) := by decide +kernel
theorem dX4_howMany_67 : decode cX4_howMany 67 = .ok (.aload_n 0, 1) := by decide +kernel
theorem dX4_howMany_68 : decode cX4_howMany 68 = .ok (.getfield 122, 3) := by decide +kernel
theorem dX4_howMany_71 : decode cX4_howMany 71 = .ok (.ireturn, 1) := by decide +kernel
theorem dX4_howMany_72 : decode cX4_howMany 72 = .ok (.aload_n 0, 1) := by decide +kernel
theorem dX4_howMany_73 : decode cX4_howMany 73 = .ok (.getfield 32, 3) := by decide +kernel
theorem dX4_howMany_76 : decode cX4_howMany 76 = .ok (.ireturn, 1) := by decide +kernel
theorem dX4_howMany_77 : decode cX4_howMany 77 = .ok (.aload_n 0, 1) := by decide +kernel
theorem dX4_howMany_78 : decode cX4_howMany 78 = .ok (.getfield 36, 3) := by decide +kernel
theorem dX4_howMany_81 : decode cX4_howMany 81 = .ok (.ireturn, 1) := by decide +kernel
theorem dX4_howMany_82 : decode cX4_howMany 82 = .ok (.aload_n 0, 1) := by decide +kernel
theorem dX4_howMany_83 : decode cX4_howMany 83 = .ok (.invokevirtual 227, 3) := by decide +kernel
theorem dX4_howMany_86 : decode cX4_howMany 86 = .ok (.ireturn, 1) := by decide +kernel
theorem dX4_howMany_87 : decode cX4_howMany 87 = .ok (.aload_n 0, 1) := by decide +kernel
theorem dX4_howMany_88 : decode cX4_howMany 88 = .ok (.getfield 132, 3) := by decide +kernel
theorem dX4_howMany_91 : decode cX4_howMany 91 = .ok (.ireturn, 1) := by decide +kernel
theorem dX4_howMany_92 : decode cX4_howMany 92 = .ok (.aload_n 0, 1) := by decide +kernel
theorem dX4_howMany_93 : decode cX4_howMany 93 = .ok (.getfield 169, 3) := by decide +kernel
theorem dX4_howMany_96 : decode cX4_howMany 96 = .ok (.ireturn, 1) := by decide +kernel
theorem dX4_howMany_97 : decode cX4_howMany 97 = .ok (.ldc 79, 2) := by decide +kernel
theorem dX4_howMany_99 : decode cX4_howMany 99 = .ok (.ireturn, 1) := by decide +kernel
set_option maxRecDepth 20000 in
theorem ggX4_count_X4_howMany : GoodIn wsX4_count wsX4_howMany := goodIn_r _ [5, 6, 7, 8, 9, 10, 11, 12, 13, 14, 15, 16, 17, 4, 18, 19, 20, 21, 22, 23, 24, 25, 26, 27, 28, 29, 30, 31, 32, 33, 34, 35, 36, 37, 38, 39, 40, 41, 42, 43, 44, 45, 46, 47, 48, 49, 50, 51, 52, 53, 54, 55, 56, 57, 58] (by decide +kernel) (by decide +kernel)
set_option maxRecDepth 20000 in
theorem gX4_count_X4_howMany : GoodIn wsX4_count (wsV RX4 230 RX4 yX4_howMany wsX4_howMany) := goodIn_app (goodIn_of _ (by decide +kernel)) ggX4_count_X4_howMany
theorem dX4_count_0 : decode cX4_count 0 = .ok (.aload_n 0, 1) := by decide +kernel
theorem dX4_count_1 : decode cX4_count 1 = .ok (.iload_n 1, 1) := by decide +kernel
theorem dX4_count_2 : decode cX4_count 2 = .ok (.invokevirtual 230, 3) := by decide +kernel
theorem dX4_count_5 : decode cX4_count 5 = .ok (.ireturn, 1) := by decide +kernel
theorem dX4_mix_0 : decode cX4_mix 0 = .ok (.aload_n 0, 1) := by decide +kernel
theorem dX4_mix_1 : decode cX4_mix 1 = .ok (.ldc2_w 233, 3) := by decide +kernel
theorem dX4_mix_4 : decode cX4_mix 4 = .ok (.aload_n 0, 1) := by decide +kernel
theorem dX4_mix_5 : decode cX4_mix 5 = .ok (.getfield 235, 3) := by decide +kernel
theorem dX4_mix_8 : decode cX4_mix 8 = .ok (.lmul, 1) := by decide +kernel
theorem dX4_mix_9 : decode cX4_mix 9 = .ok (.lload_n 1, 1) := by decide +kernel
theorem dX4_mix_10 : decode cX4_mix 10 = .ok (.ladd, 1) := by decide +kernel
theorem dX4_mix_11 : decode cX4_mix 11 = .ok (.putfield 235, 3) := by decide +kernel
theorem dX4_mix_14 : decode cX4_mix 14 = .ok (.return_, 1) := by decide +kernel
set_option maxRecDepth 20000 in
theorem ggX4_mixLinks_X4_areBeside : GoodIn wsX4_mixLinks wsX4_areBeside := goodIn_r _ [6, 7, 8, 9, 10, 11, 5, 12, 1, 13, 14, 15, 36, 37, 38, 39, 40, 41, 42, 43, 44, 45, 46, 47, 48, 49, 50, 51, 52, 53, 54, 55, 56, 57, 58, 59, 60, 61, 62, 63, 64, 65, 66, 67, 68, 69, 70, 71, 72, 73, 74] (by decide +kernel) (by decide +kernel)
set_option maxRecDepth 20000 in
theorem gX4_mixLinks_X4_areBeside : GoodIn wsX4_mixLinks (wsV RX4 140 RX4 yX4_areBeside wsX4_areBeside) := goodIn_app (goodIn_of _ (by decide +kernel)) ggX4_mixLinks_X4_areBeside
set_option maxRecDepth 20000 in
theorem ggX4_mixLinks_X4_linkNow : GoodIn wsX4_mixLinks wsX4_linkNow := goodIn_r _ [19, 7, 20, 21, 22, 23, 5, 24, 25, 26, 27, 28, 29, 36, 37, 38, 39, 40, 41, 42, 43, 44, 45, 46, 47, 48, 49, 50, 51, 52, 53, 54, 55, 56, 57, 58, 59, 60, 61, 62, 63, 64, 65, 66, 67, 68, 69, 70, 71, 72, 73, 74] (by decide +kernel) (by decide +kernel)
set_option maxRecDepth 20000 in
theorem gX4_mixLinks_X4_linkNow : GoodIn wsX4_mixLinks (wsV RX4 218 RX4 yX4_linkNow wsX4_linkNow) := goodIn_app (goodIn_of _ (by decide +kernel)) ggX4_mixLinks_X4_linkNow
set_option maxRecDepth 20000 in
theorem ggX4_mixLinks_X4_mix : GoodIn wsX4_mixLinks wsX4_mix := goodIn_r _ [33, 34, 35, 36, 37, 38, 39, 40, 41, 42, 43, 44, 45, 46, 47, 48, 49, 50, 51, 52, 53, 54, 55, 56, 57, 58, 59, 60, 61, 62, 63, 64, 65, 66, 67, 68, 69, 70, 71, 72, 73, 74] (by decide +kernel) (by decide +kernel)
set_option maxRecDepth 20000 in
theorem gX4_mixLinks_X4_mix : GoodIn wsX4_mixLinks (wsV RX4 239 RX4 yX4_mix wsX4_mix) := goodIn_app (goodIn_of _ (by decide +kernel)) ggX4_mixLinks_X4_mix
theorem dX4_mixLinks_0 : decode cX4_mixLinks 0 = .ok (.iconst 0, 1) := by decide +kernel
theorem dX4_mixLinks_1 : decode cX4_mixLinks 1 = .ok (.istore_n 1, 1) := by decide +kernel
theorem dX4_mixLinks_2 : decode cX4_mixLinks 2 = .ok (.iload_n 1, 1) := by decide +kernel
theorem dX4_mixLinks_3 : decode cX4_mixLinks 3 = .ok (.aload_n 0, 1) := by decide +kernel
theorem dX4_mixLinks_4 : decode cX4_mixLinks 4 = .ok (.getfield 112, 3) := by decide +kernel
theorem dX4_mixLinks_7 : decode cX4_mixLinks 7 = .ok (.if_icmp .ge 80, 3) := by decide +kernel
theorem dX4_mixLinks_10 : decode cX4_mixLinks 10 = .ok (.iload_n 1, 1) := by decide +kernel
theorem dX4_mixLinks_11 : decode cX4_mixLinks 11 = .ok (.iconst 1, 1) := by decide +kernel
theorem dX4_mixLinks_12 : decode cX4_mixLinks 12 = .ok (.iadd, 1) := by decide +kernel
theorem dX4_mixLinks_13 : decode cX4_mixLinks 13 = .ok (.istore_n 2, 1) := by decide +kernel
theorem dX4_mixLinks_14 : decode cX4_mixLinks 14 = .ok (.iload_n 2, 1) := by decide +kernel
theorem dX4_mixLinks_15 : decode cX4_mixLinks 15 = .ok (.aload_n 0, 1) := by decide +kernel
theorem dX4_mixLinks_16 : decode cX4_mixLinks 16 = .ok (.getfield 112, 3) := by decide +kernel
theorem dX4_mixLinks_19 : decode cX4_mixLinks 19 = .ok (.if_icmp .ge 62, 3) := by decide +kernel
theorem dX4_mixLinks_22 : decode cX4_mixLinks 22 = .ok (.iconst 0, 1) := by decide +kernel
theorem dX4_mixLinks_23 : decode cX4_mixLinks 23 = .ok (.istore_n 3, 1) := by decide +kernel
theorem dX4_mixLinks_24 : decode cX4_mixLinks 24 = .ok (.iload_n 3, 1) := by decide +kernel
theorem dX4_mixLinks_25 : decode cX4_mixLinks 25 = .ok (.bipush 8, 2) := by decide +kernel
theorem dX4_mixLinks_27 : decode cX4_mixLinks 27 = .ok (.if_icmp .ge 48, 3) := by decide +kernel
theorem dX4_mixLinks_30 : decode cX4_mixLinks 30 = .ok (.aload_n 0, 1) := by decide +kernel
theorem dX4_mixLinks_31 : decode cX4_mixLinks 31 = .ok (.iload_n 1, 1) := by decide +kernel
theorem dX4_mixLinks_32 : decode cX4_mixLinks 32 = .ok (.iload_n 2, 1) := by decide +kernel
theorem dX4_mixLinks_33 : decode cX4_mixLinks 33 = .ok (.invokevirtual 140, 3) := by decide +kernel
theorem dX4_mixLinks_36 : decode cX4_mixLinks 36 = .ok (.ifCond .eq 39, 3) := by decide +kernel
theorem dX4_mixLinks_39 : decode cX4_mixLinks 39 = .ok (.aload_n 0, 1) := by decide +kernel
theorem dX4_mixLinks_40 : decode cX4_mixLinks 40 = .ok (.iload_n 3, 1) := by decide +kernel
theorem dX4_mixLinks_41 : decode cX4_mixLinks 41 = .ok (.iconst 4, 1) := by decide +kernel
theorem dX4_mixLinks_42 : decode cX4_mixLinks 42 = .ok (.if_icmp .ge 14, 3) := by decide +kernel
theorem dX4_mixLinks_45 : decode cX4_mixLinks 45 = .ok (.aload_n 0, 1) := by decide +kernel
theorem dX4_mixLinks_46 : decode cX4_mixLinks 46 = .ok (.iload_n 1, 1) := by decide +kernel
theorem dX4_mixLinks_47 : decode cX4_mixLinks 47 = .ok (.iload_n 2, 1) := by decide +kernel
theorem dX4_mixLinks_48 : decode cX4_mixLinks 48 = .ok (.iload_n 3, 1) := by decide +kernel
theorem dX4_mixLinks_49 : decode cX4_mixLinks 49 = .ok (.invokevirtual 218, 3) := by decide +kernel
theorem dX4_mixLinks_52 : decode cX4_mixLinks 52 = .ok (.i2l, 1) := by decide +kernel
theorem dX4_mixLinks_53 : decode cX4_mixLinks 53 = .ok (.goto 13, 3) := by decide +kernel
theorem dX4_mixLinks_56 : decode cX4_mixLinks 56 = .ok (.aload_n 0, 1) := by decide +kernel
theorem dX4_mixLinks_57 : decode cX4_mixLinks 57 = .ok (.iload_n 2, 1) := by decide +kernel
theorem dX4_mixLinks_58 : decode cX4_mixLinks 58 = .ok (.iload_n 1, 1) := by decide +kernel
theorem dX4_mixLinks_59 : decode cX4_mixLinks 59 = .ok (.iload_n 3, 1) := by decide +kernel
theorem dX4_mixLinks_60 : decode cX4_mixLinks 60 = .ok (.iconst 4, 1) := by decide +kernel
theorem dX4_mixLinks_61 : decode cX4_mixLinks 61 = .ok (.isub, 1) := by decide +kernel
theorem dX4_mixLinks_62 : decode cX4_mixLinks 62 = .ok (.invokevirtual 218, 3) := by decide +kernel
theorem dX4_mixLinks_65 : decode cX4_mixLinks 65 = .ok (.i2l, 1) := by decide +kernel
theorem dX4_mixLinks_66 : decode cX4_mixLinks 66 = .ok (.invokevirtual 239, 3) := by decide +kernel
theorem dX4_mixLinks_69 : decode cX4_mixLinks 69 = .ok (.iinc 3 1, 3) := by decide +kernel
theorem dX4_mixLinks_72 : decode cX4_mixLinks 72 = .ok (.goto (-48), 3) := by decide +kernel
theorem dX4_mixLinks_75 : decode cX4_mixLinks 75 = .ok (.iinc 2 1, 3) := by decide +kernel
theorem dX4_mixLinks_78 : decode cX4_mixLinks 78 = .ok (.goto (-64), 3) := by decide +kernel
theorem dX4_mixLinks_81 : decode cX4_mixLinks 81 = .ok (.iinc 1 1, 3) := by decide +kernel
theorem dX4_mixLinks_84 : decode cX4_mixLinks 84 = .ok (.goto (-82), 3) := by decide +kernel
theorem dX4_mixLinks_87 : decode cX4_mixLinks 87 = .ok (.return_, 1) := by decide +kernel
set_option maxRecDepth 20000 in
theorem ggX4_mixSkews_X4_skewNow : GoodIn wsX4_mixSkews wsX4_skewNow := goodIn_r _ [5, 6, 7, 8, 9, 4, 10, 11, 12, 13, 14, 15, 16, 17, 18, 19, 20, 21, 22, 23, 24, 25, 26, 27, 28, 29, 30, 31, 32, 33, 34, 35, 36, 37, 38, 39, 40, 41, 42, 109, 110, 111, 112, 113, 114, 115, 116, 117, 118, 119, 120, 121, 122, 123, 124, 125, 126, 127, 128, 129, 130, 131, 132, 133, 134, 135, 136, 137, 138, 139, 140, 141, 142, 143, 144, 145, 146, 147] (by decide +kernel) (by decide +kernel)
set_option maxRecDepth 20000 in
theorem gX4_mixSkews_X4_skewNow : GoodIn wsX4_mixSkews (wsV RX4 187 RX4 yX4_skewNow wsX4_skewNow) := goodIn_app (goodIn_of _ (by decide +kernel)) ggX4_mixSkews_X4_skewNow
set_option maxRecDepth 20000 in
theorem ggX4_mixSkews_X4_mix : GoodIn wsX4_mixSkews wsX4_mix := goodIn_r _ [46, 47, 48, 109, 110, 111, 112, 113, 114, 115, 116, 117, 118, 119, 120, 121, 122, 123, 124, 125, 126, 127, 128, 129, 130, 131, 132, 133, 134, 135, 136, 137, 138, 139, 140, 141, 142, 143, 144, 145, 146, 147] (by decide +kernel) (by decide +kernel)
set_option maxRecDepth 20000 in
theorem gX4_mixSkews_X4_mix : GoodIn wsX4_mixSkews (wsV RX4 239 RX4 yX4_mix wsX4_mix) := goodIn_app (goodIn_of _ (by decide +kernel)) ggX4_mixSkews_X4_mix
set_option maxRecDepth 20000 in
theorem ggX4_mixSkews_X4_spreadNow : GoodIn wsX4_mixSkews wsX4_spreadNow := goodIn_r _ [52, 17, 11, 53, 54, 55, 4, 56, 12, 13, 14, 15, 16, 18, 19, 20, 21, 22, 23, 24, 25, 26, 27, 28, 29, 109, 110, 111, 112, 113, 114, 115, 116, 117, 118, 119, 120, 121, 122, 123, 124, 125, 126, 127, 128, 129, 130, 131, 132, 133, 134, 135, 136, 137, 138, 139, 140, 141, 142, 143, 144, 145, 146, 147] (by decide +kernel) (by decide +kernel)
set_option maxRecDepth 20000 in
theorem gX4_mixSkews_X4_spreadNow : GoodIn wsX4_mixSkews (wsV RX4 190 RX4 yX4_spreadNow wsX4_spreadNow) := goodIn_app (goodIn_of _ (by decide +kernel)) ggX4_mixSkews_X4_spreadNow
set_option maxRecDepth 20000 in
theorem ggX4_mixSkews_X4_worstNow : GoodIn wsX4_mixSkews wsX4_worstNow := goodIn_r _ [60, 61, 62, 63, 64, 65, 4, 66, 17, 11, 67, 68, 69, 70, 71, 72, 29, 73, 74, 75, 76, 77, 78, 79, 80, 81, 82, 83, 84, 85, 86, 87, 88, 89, 90, 91, 12, 13, 14, 15, 16, 18, 19, 20, 21, 22, 23, 24, 92, 93, 94, 95, 96, 97, 98, 99, 100, 42, 38, 39, 40, 41, 101, 102, 103, 104, 7, 8, 9, 10, 25, 26, 27, 28, 105, 106, 107, 108, 109, 110, 111, 112, 113, 114, 115, 116, 117, 118, 119, 120, 121, 122, 123, 124, 125, 126, 127, 128, 129, 130, 131, 132, 133, 134, 135, 136, 137, 138, 139, 140, 141, 142, 143, 144, 145, 146, 147] (by decide +kernel) (by decide +kernel)
set_option maxRecDepth 20000 in
theorem gX4_mixSkews_X4_worstNow : GoodIn wsX4_mixSkews (wsV RX4 209 RX4 yX4_worstNow wsX4_worstNow) := goodIn_app (goodIn_of _ (by decide +kernel)) ggX4_mixSkews_X4_worstNow
theorem dX4_mixSkews_0 : decode cX4_mixSkews 0 = .ok (.iconst 0, 1) := by decide +kernel
theorem dX4_mixSkews_1 : decode cX4_mixSkews 1 = .ok (.istore_n 1, 1) := by decide +kernel
theorem dX4_mixSkews_2 : decode cX4_mixSkews 2 = .ok (.iload_n 1, 1) := by decide +kernel
theorem dX4_mixSkews_3 : decode cX4_mixSkews 3 = .ok (.iconst 4, 1) := by decide +kernel
theorem dX4_mixSkews_4 : decode cX4_mixSkews 4 = .ok (.if_icmp .ge 19, 3) := by decide +kernel
theorem dX4_mixSkews_7 : decode cX4_mixSkews 7 = .ok (.aload_n 0, 1) := by decide +kernel
theorem dX4_mixSkews_8 : decode cX4_mixSkews 8 = .ok (.aload_n 0, 1) := by decide +kernel
theorem dX4_mixSkews_9 : decode cX4_mixSkews 9 = .ok (.iload_n 1, 1) := by decide +kernel
theorem dX4_mixSkews_10 : decode cX4_mixSkews 10 = .ok (.invokevirtual 187, 3) := by decide +kernel
theorem dX4_mixSkews_13 : decode cX4_mixSkews 13 = .ok (.i2l, 1) := by decide +kernel
theorem dX4_mixSkews_14 : decode cX4_mixSkews 14 = .ok (.invokevirtual 239, 3) := by decide +kernel
theorem dX4_mixSkews_17 : decode cX4_mixSkews 17 = .ok (.iinc 1 1, 3) := by decide +kernel
theorem dX4_mixSkews_20 : decode cX4_mixSkews 20 = .ok (.goto (-18), 3) := by decide +kernel
theorem dX4_mixSkews_23 : decode cX4_mixSkews 23 = .ok (.iconst 1, 1) := by decide +kernel
theorem dX4_mixSkews_24 : decode cX4_mixSkews 24 = .ok (.istore_n 1, 1) := by decide +kernel
theorem dX4_mixSkews_25 : decode cX4_mixSkews 25 = .ok (.iload_n 1, 1) := by decide +kernel
theorem dX4_mixSkews_26 : decode cX4_mixSkews 26 = .ok (.bipush 6, 2) := by decide +kernel
theorem dX4_mixSkews_28 : decode cX4_mixSkews 28 = .ok (.if_icmp .ge 19, 3) := by decide +kernel
theorem dX4_mixSkews_31 : decode cX4_mixSkews 31 = .ok (.aload_n 0, 1) := by decide +kernel
theorem dX4_mixSkews_32 : decode cX4_mixSkews 32 = .ok (.aload_n 0, 1) := by decide +kernel
theorem dX4_mixSkews_33 : decode cX4_mixSkews 33 = .ok (.iload_n 1, 1) := by decide +kernel
theorem dX4_mixSkews_34 : decode cX4_mixSkews 34 = .ok (.invokevirtual 190, 3) := by decide +kernel
theorem dX4_mixSkews_37 : decode cX4_mixSkews 37 = .ok (.i2l, 1) := by decide +kernel
theorem dX4_mixSkews_38 : decode cX4_mixSkews 38 = .ok (.invokevirtual 239, 3) := by decide +kernel
theorem dX4_mixSkews_41 : decode cX4_mixSkews 41 = .ok (.iinc 1 1, 3) := by decide +kernel
theorem dX4_mixSkews_44 : decode cX4_mixSkews 44 = .ok (.goto (-19), 3) := by decide +kernel
theorem dX4_mixSkews_47 : decode cX4_mixSkews 47 = .ok (.aload_n 0, 1) := by decide +kernel
theorem dX4_mixSkews_48 : decode cX4_mixSkews 48 = .ok (.aload_n 0, 1) := by decide +kernel
theorem dX4_mixSkews_49 : decode cX4_mixSkews 49 = .ok (.iconst 3, 1) := by decide +kernel
theorem dX4_mixSkews_50 : decode cX4_mixSkews 50 = .ok (.iconst 0, 1) := by decide +kernel
theorem dX4_mixSkews_51 : decode cX4_mixSkews 51 = .ok (.invokevirtual 209, 3) := by decide +kernel
theorem dX4_mixSkews_54 : decode cX4_mixSkews 54 = .ok (.i2l, 1) := by decide +kernel
theorem dX4_mixSkews_55 : decode cX4_mixSkews 55 = .ok (.invokevirtual 239, 3) := by decide +kernel
theorem dX4_mixSkews_58 : decode cX4_mixSkews 58 = .ok (.aload_n 0, 1) := by decide +kernel
theorem dX4_mixSkews_59 : decode cX4_mixSkews 59 = .ok (.aload_n 0, 1) := by decide +kernel
theorem dX4_mixSkews_60 : decode cX4_mixSkews 60 = .ok (.iconst 3, 1) := by decide +kernel
theorem dX4_mixSkews_61 : decode cX4_mixSkews 61 = .ok (.iconst 1, 1) := by decide +kernel
theorem dX4_mixSkews_62 : decode cX4_mixSkews 62 = .ok (.invokevirtual 209, 3) := by decide +kernel
theorem dX4_mixSkews_65 : decode cX4_mixSkews 65 = .ok (.i2l, 1) := by decide +kernel
theorem dX4_mixSkews_66 : decode cX4_mixSkews 66 = .ok (.invokevirtual 239, 3) := by decide +kernel
theorem dX4_mixSkews_69 : decode cX4_mixSkews 69 = .ok (.return_, 1) := by decide +kernel
set_option maxRecDepth 20000 in
theorem ggX4_digest_X4_nodeNow : GoodIn wsX4_digest wsX4_nodeNow := goodIn_r _ [10, 11, 12, 13, 14, 15, 16, 17, 9, 18, 3, 19, 20, 21, 22, 23, 24, 25, 26, 27, 28, 29, 30, 31, 32, 33, 34, 35, 36, 37, 38, 39, 40, 41, 42, 43, 44, 45, 46, 47, 48, 49, 50, 51, 52, 53, 54, 55, 56, 57, 145, 146, 147, 148, 149, 150, 151, 152, 153, 154, 155, 156, 157, 158, 159, 160, 161, 162, 163, 164, 165, 166, 167, 168, 169, 170, 171, 172, 173, 174, 175, 176, 177, 178, 179, 180, 181, 182, 183] (by decide +kernel) (by decide +kernel)
set_option maxRecDepth 20000 in
theorem gX4_digest_X4_nodeNow : GoodIn wsX4_digest (wsV RX4 215 RX4 yX4_nodeNow wsX4_nodeNow) := goodIn_app (goodIn_of _ (by decide +kernel)) ggX4_digest_X4_nodeNow
set_option maxRecDepth 20000 in
theorem ggX4_digest_X4_mix : GoodIn wsX4_digest wsX4_mix := goodIn_r _ [61, 62, 2, 145, 146, 147, 148, 149, 150, 151, 152, 153, 154, 155, 156, 157, 158, 159, 160, 161, 162, 163, 164, 165, 166, 167, 168, 169, 170, 171, 172, 173, 174, 175, 176, 177, 178, 179, 180, 181, 182, 183] (by decide +kernel) (by decide +kernel)
set_option maxRecDepth 20000 in
theorem gX4_digest_X4_mix : GoodIn wsX4_digest (wsV RX4 239 RX4 yX4_mix wsX4_mix) := goodIn_app (goodIn_of _ (by decide +kernel)) ggX4_digest_X4_mix
set_option maxRecDepth 20000 in
theorem ggX4_digest_X4_mixLinks : GoodIn wsX4_digest wsX4_mixLinks := goodIn_r _ [66, 3, 19, 20, 21, 9, 22, 23, 24, 25, 26, 27, 28, 29, 30, 31, 67, 68, 69, 70, 40, 36, 37, 38, 39, 11, 71, 72, 73, 74, 58, 59, 60, 61, 62, 2, 145, 146, 147, 148, 149, 150, 151, 152, 153, 154, 155, 156, 157, 158, 159, 160, 161, 162, 163, 164, 165, 166, 167, 168, 169, 170, 171, 172, 173, 174, 175, 176, 177, 178, 179, 180, 181, 182, 183] (by decide +kernel) (by decide +kernel)
set_option maxRecDepth 20000 in
theorem gX4_digest_X4_mixLinks : GoodIn wsX4_digest (wsV RX4 245 RX4 yX4_mixLinks wsX4_mixLinks) := goodIn_app (goodIn_of _ (by decide +kernel)) ggX4_digest_X4_mixLinks
set_option maxRecDepth 20000 in
theorem ggX4_digest_X4_mixSkews : GoodIn wsX4_digest wsX4_mixSkews := goodIn_r _ [78, 79, 80, 81, 9, 82, 83, 84, 85, 86, 87, 3, 19, 20, 21, 22, 23, 24, 25, 26, 27, 28, 29, 30, 31, 71, 72, 73, 74, 11, 88, 89, 90, 91, 92, 93, 94, 95, 50, 51, 52, 53, 49, 58, 59, 60, 61, 62, 2, 96, 97, 98, 99, 100, 101, 102, 103, 104, 105, 106, 107, 108, 109, 110, 111, 112, 113, 12, 114, 115, 116, 117, 118, 119, 120, 13, 121, 14, 122, 123, 124, 125, 126, 127, 41, 42, 43, 44, 32, 33, 34, 35, 36, 37, 38, 39, 40, 45, 46, 47, 48, 54, 55, 56, 57, 128, 129, 130, 131, 145, 146, 147, 148, 149, 150, 151, 152, 153, 154, 155, 156, 157, 158, 159, 160, 161, 162, 163, 164, 165, 166, 167, 168, 169, 170, 171, 172, 173, 174, 175, 176, 177, 178, 179, 180, 181, 182, 183] (by decide +kernel) (by decide +kernel)
set_option maxRecDepth 20000 in
theorem gX4_digest_X4_mixSkews : GoodIn wsX4_digest (wsV RX4 248 RX4 yX4_mixSkews wsX4_mixSkews) := goodIn_app (goodIn_of _ (by decide +kernel)) ggX4_digest_X4_mixSkews
set_option maxRecDepth 20000 in
theorem ggX4_digest_X4_howMany : GoodIn wsX4_digest wsX4_howMany := goodIn_r _ [135, 3, 136, 4, 137, 49, 127, 138, 139, 140, 141, 142, 143, 9, 144, 13, 145, 146, 147, 148, 149, 150, 151, 152, 153, 154, 155, 156, 157, 158, 159, 160, 161, 162, 163, 164, 165, 166, 167, 168, 169, 170, 171, 172, 173, 174, 175, 176, 177, 178, 179, 180, 181, 182, 183] (by decide +kernel) (by decide +kernel)
set_option maxRecDepth 20000 in
theorem gX4_digest_X4_howMany : GoodIn wsX4_digest (wsV RX4 230 RX4 yX4_howMany wsX4_howMany) := goodIn_app (goodIn_of _ (by decide +kernel)) ggX4_digest_X4_howMany
theorem dX4_digest_0 : decode cX4_digest 0 = .ok (.aload_n 0, 1) := by decide +kernel
theorem dX4_digest_1 : decode cX4_digest 1 = .ok (.ldc2_w 243, 3) := by decide +kernel
theorem dX4_digest_4 : decode cX4_digest 4 = .ok (.putfield 235, 3) := by decide +kernel
theorem dX4_digest_7 : decode cX4_digest 7 = .ok (.iconst 0, 1) := by decide +kernel
theorem dX4_digest_8 : decode cX4_digest 8 = .ok (.istore_n 1, 1) := by decide +kernel
theorem dX4_digest_9 : decode cX4_digest 9 = .ok (.iload_n 1, 1) := by decide +kernel
theorem dX4_digest_10 : decode cX4_digest 10 = .ok (.aload_n 0, 1) := by decide +kernel
theorem dX4_digest_11 : decode cX4_digest 11 = .ok (.getfield 112, 3) := by decide +kernel
theorem dX4_digest_14 : decode cX4_digest 14 = .ok (.if_icmp .ge 34, 3) := by decide +kernel
theorem dX4_digest_17 : decode cX4_digest 17 = .ok (.iconst 0, 1) := by decide +kernel
theorem dX4_digest_18 : decode cX4_digest 18 = .ok (.istore_n 2, 1) := by decide +kernel
theorem dX4_digest_19 : decode cX4_digest 19 = .ok (.iload_n 2, 1) := by decide +kernel
theorem dX4_digest_20 : decode cX4_digest 20 = .ok (.bipush 9, 2) := by decide +kernel
theorem dX4_digest_22 : decode cX4_digest 22 = .ok (.if_icmp .ge 20, 3) := by decide +kernel
theorem dX4_digest_25 : decode cX4_digest 25 = .ok (.aload_n 0, 1) := by decide +kernel
theorem dX4_digest_26 : decode cX4_digest 26 = .ok (.aload_n 0, 1) := by decide +kernel
theorem dX4_digest_27 : decode cX4_digest 27 = .ok (.iload_n 1, 1) := by decide +kernel
theorem dX4_digest_28 : decode cX4_digest 28 = .ok (.iload_n 2, 1) := by decide +kernel
theorem dX4_digest_29 : decode cX4_digest 29 = .ok (.invokevirtual 215, 3) := by decide +kernel
theorem dX4_digest_32 : decode cX4_digest 32 = .ok (.i2l, 1) := by decide +kernel
theorem dX4_digest_33 : decode cX4_digest 33 = .ok (.invokevirtual 239, 3) := by decide +kernel
theorem dX4_digest_36 : decode cX4_digest 36 = .ok (.iinc 2 1, 3) := by decide +kernel
theorem dX4_digest_39 : decode cX4_digest 39 = .ok (.goto (-20), 3) := by decide +kernel
theorem dX4_digest_42 : decode cX4_digest 42 = .ok (.iinc 1 1, 3) := by decide +kernel
theorem dX4_digest_45 : decode cX4_digest 45 = .ok (.goto (-36), 3) := by decide +kernel
theorem dX4_digest_48 : decode cX4_digest 48 = .ok (.aload_n 0, 1) := by decide +kernel
theorem dX4_digest_49 : decode cX4_digest 49 = .ok (.invokevirtual 245, 3) := by decide +kernel
theorem dX4_digest_52 : decode cX4_digest 52 = .ok (.aload_n 0, 1) := by decide +kernel
theorem dX4_digest_53 : decode cX4_digest 53 = .ok (.getfield 112, 3) := by decide +kernel
theorem dX4_digest_56 : decode cX4_digest 56 = .ok (.ifCond .le 7, 3) := by decide +kernel
theorem dX4_digest_59 : decode cX4_digest 59 = .ok (.aload_n 0, 1) := by decide +kernel
theorem dX4_digest_60 : decode cX4_digest 60 = .ok (.invokevirtual 248, 3) := by decide +kernel
theorem dX4_digest_63 : decode cX4_digest 63 = .ok (.iconst 0, 1) := by decide +kernel
theorem dX4_digest_64 : decode cX4_digest 64 = .ok (.istore_n 1, 1) := by decide +kernel
theorem dX4_digest_65 : decode cX4_digest 65 = .ok (.iload_n 1, 1) := by decide +kernel
theorem dX4_digest_66 : decode cX4_digest 66 = .ok (.aload_n 0, 1) := by decide +kernel
theorem dX4_digest_67 : decode cX4_digest 67 = .ok (.getfield 80, 3) := by decide +kernel
theorem dX4_digest_70 : decode cX4_digest 70 = .ok (.if_icmp .ge 20, 3) := by decide +kernel
theorem dX4_digest_73 : decode cX4_digest 73 = .ok (.aload_n 0, 1) := by decide +kernel
theorem dX4_digest_74 : decode cX4_digest 74 = .ok (.aload_n 0, 1) := by decide +kernel
theorem dX4_digest_75 : decode cX4_digest 75 = .ok (.getfield 7, 3) := by decide +kernel
theorem dX4_digest_78 : decode cX4_digest 78 = .ok (.iload_n 1, 1) := by decide +kernel
theorem dX4_digest_79 : decode cX4_digest 79 = .ok (.iaload, 1) := by decide +kernel
theorem dX4_digest_80 : decode cX4_digest 80 = .ok (.i2l, 1) := by decide +kernel
theorem dX4_digest_81 : decode cX4_digest 81 = .ok (.invokevirtual 239, 3) := by decide +kernel
theorem dX4_digest_84 : decode cX4_digest 84 = .ok (.iinc 1 1, 3) := by decide +kernel
theorem dX4_digest_87 : decode cX4_digest 87 = .ok (.goto (-22), 3) := by decide +kernel
theorem dX4_digest_90 : decode cX4_digest 90 = .ok (.iconst 0, 1) := by decide +kernel
theorem dX4_digest_91 : decode cX4_digest 91 = .ok (.istore_n 1, 1) := by decide +kernel
theorem dX4_digest_92 : decode cX4_digest 92 = .ok (.iload_n 1, 1) := by decide +kernel
theorem dX4_digest_93 : decode cX4_digest 93 = .ok (.bipush 9, 2) := by decide +kernel
theorem dX4_digest_95 : decode cX4_digest 95 = .ok (.if_icmp .ge 19, 3) := by decide +kernel
theorem dX4_digest_98 : decode cX4_digest 98 = .ok (.aload_n 0, 1) := by decide +kernel
theorem dX4_digest_99 : decode cX4_digest 99 = .ok (.aload_n 0, 1) := by decide +kernel
theorem dX4_digest_100 : decode cX4_digest 100 = .ok (.iload_n 1, 1) := by decide +kernel
theorem dX4_digest_101 : decode cX4_digest 101 = .ok (.invokevirtual 230, 3) := by decide +kernel
theorem dX4_digest_104 : decode cX4_digest 104 = .ok (.i2l, 1) := by decide +kernel
theorem dX4_digest_105 : decode cX4_digest 105 = .ok (.invokevirtual 239, 3) := by decide +kernel
theorem dX4_digest_108 : decode cX4_digest 108 = .ok (.iinc 1 1, 3) := by decide +kernel
theorem dX4_digest_111 : decode cX4_digest 111 = .ok (.goto (-19), 3) := by decide +kernel
theorem dX4_digest_114 : decode cX4_digest 114 = .ok (.aload_n 0, 1) := by decide +kernel
theorem dX4_digest_115 : decode cX4_digest 115 = .ok (.getfield 235, 3) := by decide +kernel
theorem dX4_digest_118 : decode cX4_digest 118 = .ok (.lreturn, 1) := by decide +kernel
theorem dJ9_abs_0f7a4_0 : decode cJ9_abs_0f7a4 0 = .ok (.iload_n 0, 1) := by decide +kernel
theorem dJ9_abs_0f7a4_1 : decode cJ9_abs_0f7a4 1 = .ok (.ifCond .ge 8, 3) := by decide +kernel
theorem dJ9_abs_0f7a4_4 : decode cJ9_abs_0f7a4 4 = .ok (.iload_n 0, 1) := by decide +kernel
theorem dJ9_abs_0f7a4_5 : decode cJ9_abs_0f7a4 5 = .ok (.ineg, 1) := by decide +kernel
theorem dJ9_abs_0f7a4_6 : decode cJ9_abs_0f7a4 6 = .ok (.goto 4, 3) := by decide +kernel
theorem dJ9_abs_0f7a4_9 : decode cJ9_abs_0f7a4 9 = .ok (.iload_n 0, 1) := by decide +kernel
theorem dJ9_abs_0f7a4_10 : decode cJ9_abs_0f7a4 10 = .ok (.ireturn, 1) := by decide +kernel
theorem dJ9_max_7cf53_0 : decode cJ9_max_7cf53 0 = .ok (.iload_n 0, 1) := by decide +kernel
theorem dJ9_max_7cf53_1 : decode cJ9_max_7cf53 1 = .ok (.iload_n 1, 1) := by decide +kernel
theorem dJ9_max_7cf53_2 : decode cJ9_max_7cf53 2 = .ok (.if_icmp .lt 7, 3) := by decide +kernel
theorem dJ9_max_7cf53_5 : decode cJ9_max_7cf53 5 = .ok (.iload_n 0, 1) := by decide +kernel
theorem dJ9_max_7cf53_6 : decode cJ9_max_7cf53 6 = .ok (.goto 4, 3) := by decide +kernel
theorem dJ9_max_7cf53_9 : decode cJ9_max_7cf53 9 = .ok (.iload_n 1, 1) := by decide +kernel
theorem dJ9_max_7cf53_10 : decode cJ9_max_7cf53 10 = .ok (.ireturn, 1) := by decide +kernel
theorem dJ9_min_7cf53_0 : decode cJ9_min_7cf53 0 = .ok (.iload_n 0, 1) := by decide +kernel
theorem dJ9_min_7cf53_1 : decode cJ9_min_7cf53 1 = .ok (.iload_n 1, 1) := by decide +kernel
theorem dJ9_min_7cf53_2 : decode cJ9_min_7cf53 2 = .ok (.if_icmp .gt 7, 3) := by decide +kernel
theorem dJ9_min_7cf53_5 : decode cJ9_min_7cf53 5 = .ok (.iload_n 0, 1) := by decide +kernel
theorem dJ9_min_7cf53_6 : decode cJ9_min_7cf53 6 = .ok (.goto 4, 3) := by decide +kernel
theorem dJ9_min_7cf53_9 : decode cJ9_min_7cf53 9 = .ok (.iload_n 1, 1) := by decide +kernel
theorem dJ9_min_7cf53_10 : decode cJ9_min_7cf53 10 = .ok (.ireturn, 1) := by decide +kernel
theorem dJ7_fill_53178_0 : decode cJ7_fill_53178 0 = .ok (.iconst 0, 1) := by decide +kernel
theorem dJ7_fill_53178_1 : decode cJ7_fill_53178 1 = .ok (.istore_n 2, 1) := by decide +kernel
theorem dJ7_fill_53178_2 : decode cJ7_fill_53178 2 = .ok (.aload_n 0, 1) := by decide +kernel
theorem dJ7_fill_53178_3 : decode cJ7_fill_53178 3 = .ok (.arraylength, 1) := by decide +kernel
theorem dJ7_fill_53178_4 : decode cJ7_fill_53178 4 = .ok (.istore_n 3, 1) := by decide +kernel
theorem dJ7_fill_53178_5 : decode cJ7_fill_53178 5 = .ok (.iload_n 2, 1) := by decide +kernel
theorem dJ7_fill_53178_6 : decode cJ7_fill_53178 6 = .ok (.iload_n 3, 1) := by decide +kernel
theorem dJ7_fill_53178_7 : decode cJ7_fill_53178 7 = .ok (.if_icmp .ge 13, 3) := by decide +kernel
theorem dJ7_fill_53178_10 : decode cJ7_fill_53178 10 = .ok (.aload_n 0, 1) := by decide +kernel
theorem dJ7_fill_53178_11 : decode cJ7_fill_53178 11 = .ok (.iload_n 2, 1) := by decide +kernel
theorem dJ7_fill_53178_12 : decode cJ7_fill_53178 12 = .ok (.iload_n 1, 1) := by decide +kernel
theorem dJ7_fill_53178_13 : decode cJ7_fill_53178 13 = .ok (.iastore, 1) := by decide +kernel
theorem dJ7_fill_53178_14 : decode cJ7_fill_53178 14 = .ok (.iinc 2 1, 3) := by decide +kernel
theorem dJ7_fill_53178_17 : decode cJ7_fill_53178 17 = .ok (.goto (-12), 3) := by decide +kernel
theorem dJ7_fill_53178_20 : decode cJ7_fill_53178 20 = .ok (.return_, 1) := by decide +kernel
end
section
abbrev vwCl : List vw_C := [(RX0, TX0, 11), (RX1, TX1, 5), (RX2, TX2, 2), (RX3, TX3, 10), (RX4, TX4, 39)]
-- numbers: an Int32 as the Int that it stands for
def iI (z : Int) : Int32 := Int32.ofInt z
theorem iI_add (a b : Int) : iI a + iI b = iI (a + b) := (Int32.ofInt_add a b).symm
theorem iI_sub (a b : Int) : iI a - iI b = iI (a - b) := (Int32.ofInt_sub a b).symm
theorem iI_mul (a b : Int) : iI a * iI b = iI (a * b) := (Int32.ofInt_mul a b).symm
theorem iI_neg (a : Int) : -iI a = iI (-a) := Int32.neg_ofInt
theorem iI_of (x : Int32) : iI x.toInt = x := Int32.ofInt_toInt x
theorem iI_toInt {z : Int} (h : -2147483648 ≤ z ∧ z < 2147483648) : (iI z).toInt = z := Int32.toInt_ofInt_of_le h.1 h.2
theorem iI_rng (x : Int32) : -2147483648 ≤ x.toInt ∧ x.toInt < 2147483648 := ⟨x.le_toInt, x.toInt_lt⟩
theorem iI_lt {a b : Int} (ha : -2147483648 ≤ a ∧ a < 2147483648) (hb : -2147483648 ≤ b ∧ b < 2147483648) : iI a < iI b ↔ a < b := by
  rw [Int32.lt_iff_toInt_lt, iI_toInt ha, iI_toInt hb]
theorem iI_le {a b : Int} (ha : -2147483648 ≤ a ∧ a < 2147483648) (hb : -2147483648 ≤ b ∧ b < 2147483648) : iI a ≤ iI b ↔ a ≤ b := by
  rw [Int32.le_iff_toInt_le, iI_toInt ha, iI_toInt hb]
theorem iI_eq {a b : Int} (ha : -2147483648 ≤ a ∧ a < 2147483648) (hb : -2147483648 ≤ b ∧ b < 2147483648) : iI a = iI b ↔ a = b := by
  rw [← Int32.toInt_inj, iI_toInt ha, iI_toInt hb]
theorem iI_nat (n : Nat) : nI n = iI n := Int32.ofInt_eq_ofNat.symm
theorem iI_cl {z : Int} {k : Nat} (h : z = k) (hk : k < 2147483648) : (iI z).toNatClampNeg = k := by
  subst h
  have := Int32.toNatClampNeg_ofInt_of_le (n := (k : Int)) (by omega) (by omega)
  rw [iI, this]
  omega
theorem iI_in {z : Int} {k n : Nat} (h : z = k) (hk : k < n) (hn : n < 2147483648) : vp_in (iI z) n := by
  rw [vp_in_iff, iI_toInt (by omega)]
  omega
theorem iI_0 : iI 0 = 0 := rfl
theorem iI_div {a b : Int} (ha : 0 ≤ a ∧ a < 2147483648) (hb : 0 < b ∧ b < 2147483648) : iI a / iI b = iI (a / b) := by
  rw [← Int32.toInt_inj, Int32.toInt_div_of_ne_right _ _ (fun h => by
    have h2 : (iI b).toInt = -1 := by rw [h]; rfl
    rw [iI_toInt (by omega)] at h2
    omega), iI_toInt (by omega), iI_toInt (by omega), Int.tdiv_eq_ediv_of_nonneg ha.1]
  rw [iI_toInt]
  have h1 := Int.ediv_nonneg ha.1 (Int.le_of_lt hb.1)
  have h2 := Int.ediv_le_self b ha.1
  omega
theorem iI_rem {a b : Int} (ha : 0 ≤ a ∧ a < 2147483648) (hb : 0 < b ∧ b < 2147483648) : iI a - iI a / iI b * iI b = iI (a % b) := by
  rw [iI_div ha hb, iI_mul, iI_sub]
  congr 1
  have := Int.emod_def a b
  rw [this, Int.mul_comm]
theorem iI_ne0 {b : Int} (hb : 0 < b ∧ b < 2147483648) : ¬ iI b = 0 := by
  rw [← iI_0, iI_eq (by omega) (by omega)]
  omega
-- arrays of ints, as functions to Int
def aI (cI : ClassId) (n : Nat) (g : Nat → Int) : va_E := .inl (cI, n, .inl (fun k => iI (g k)))
theorem aI_upd (g : Nat → Int) (k : Nat) (x : Int) : upd (fun j => iI (g j)) k (iI x) = fun j => iI (va_up g k x j) := by
  funext j
  by_cases h : j = k
  · subst h; simp [upd, va_up]
  · simp [upd, va_up, h]
theorem up_s {α : Type} (f : Nat → α) (k : Nat) (v : α) : va_up f k v k = v := by simp [va_up]
theorem up_n {α : Type} (f : Nat → α) (k : Nat) (v : α) {j : Nat} (h : j ≠ k) : va_up f k v j = f j := by simp [va_up, h]
-- the words of nest mates
def kNF : List (String × Nat × String × String × String) := [(RX3, 193, RX2, "length", "I"), (RX3, 136, RX1, "degrees", "[I"), (RX0, 106, RX1, "degrees", "[I"), (RX0, 82, RX1, "nodes", "I"), (RX3, 83, RX1, "nodes", "I"), (RX0, 54, RX1, "links", "I"), (RX3, 190, RX1, "links", "I"), (RX3, 91, RX0, "rates", "[I"), (RX3, 133, RX0, "fast", "[I"), (RX3, 151, RX0, "fastTicks", "[I"), (RX3, 114, RX0, "delays", "[I"), (RX3, 107, RX0, "errors", "[I"), (RX3, 124, RX0, "ticks", "I"), (RX3, 169, RX0, "greatestLocal", "I")]
def kNM : List (String × Nat × MethodName) := [(RX3, 9, yX2_init), (RX3, 18, yX1_init), (RX1, 32, yX3_cell), (RX0, 89, yX3_cell), (RX0, 120, yX3_levelReaching), (RX0, 123, yX3_dividedUp)]
def kNW (U : State) : Prop := (∀ q ∈ kNF, va_Nw (.fieldLinkNest q.1 q.2.1 q.2.2.1 q.2.2.2.1 q.2.2.2.2 "CloseClocks") U) ∧ ∀ q ∈ kNM, va_Nw (.methodLinkNest q.1 q.2.1 q.2.2 "CloseClocks") U
theorem kNW.warm {s U : State} (hW : s.WarmedH U.vm) (h : kNW s) : kNW U := ⟨fun q hq => va_Nw.warmF hW (h.1 q hq), fun q hq => va_Nw.warmM hW (h.2 q hq)⟩
theorem kNW.same {s U : State} (hv : s.vm = U.vm) (h : kNW s) : kNW U := ⟨fun q hq => va_Nw.same rfl hv (h.1 q hq), fun q hq => va_Nw.same rfl hv (h.2 q hq)⟩
def kK (D : va_G) (cI cZ : ClassId) (U : State) : Prop := va_K D vwCl [(cI, .int), (cZ, .boolean)] U ∧ kNW U
theorem kK.warm {D : va_G} {cI cZ : ClassId} {s U : State} (hW : s.WarmedH U.vm) (h : kK D cI cZ s) : kK D cI cZ U := ⟨va_K.moved hW.alike h.1, kNW.warm hW h.2⟩
theorem kK.call {D : va_G} {cI cZ : ClassId} {U : State} (g : JFrame) (mk : MethodId) (a : Array Value) (h : kK D cI cZ U) : kK D cI cZ (U.calling g mk a) := ⟨va_K.moved (u := U) (U := U.calling g mk a) (Vm.Alike.refl U.vm) h.1, kNW.same (U := U.calling g mk a) rfl h.2⟩
-- contracts: one that changes nothing, one that does
def kR (v : Option Value) : Array Value → State → Outcome → State → Prop := fun _ st oc t => oc = .returned v ∧ t.heap = st.heap
def kRO (l : Launch) (y : MethodName) (ws : List Cond) (rm : Room) (D : va_G) (cI cZ : ClassId) (av : List Value) (wd : va_W) (v : Option Value) : Prop := Met l y ws rm (va_Pc av (fun U => va_P D vwCl wd U.heap ∧ kK D cI cZ U)) (kR v) 0 0 (fun _ => False)
def kQ (D : va_G) {S : Type} (ov : S → Option Value) (post : S → Prop) (w1 : S → va_W) (A : Nat → Prop) : Array Value → State → Outcome → State → Prop := fun _ st oc t => (∃ u : S, oc = .returned (ov u) ∧ post u ∧ va_P D vwCl (w1 u) t.heap ∧ va_D A (w1 u)) ∧ va_F A st t
def kWR (l : Launch) (y : MethodName) (ws : List Cond) (rm : Room) (D : va_G) (cI cZ : ClassId) (av : List Value) (wd : va_W) {S : Type} (ov : S → Option Value) (post : S → Prop) (w1 : S → va_W) (mc ms : Nat) : Prop := ∀ sz : Nat, Met l y ws rm (va_Pc av (fun U => U.heap.size = sz ∧ (va_P D vwCl wd U.heap ∧ kK D cI cZ U) ∧ va_D (fun _ => True) wd)) (kQ D ov post w1 (va_A wd sz)) mc ms (va_A wd sz)
section KXM
variable {l : Launch} {y : MethodName} {ws ws' : List Cond} {rm : Room} {D : va_G} {cI cZ : ClassId} {av : List Value} {wd : va_W} {cc : ByteArray} {maxL : Nat}
theorem kx_ROi {x : Int32} (hy : plainName y.cls = true) (hw : ws = Cond.code y cc maxL (some .int) :: ws') (hn : (lg_sl av).length ≤ maxL)
    (body : ∀ (p : Program) (e : Env) (s : State) (m : MethodId) (args : Array Value) (below : List Frame) (meth : Method) (c : Code) (Q : State → Prop), p.tables.exec = Jvm.exec → c.code = cc → c.maxLocals = maxL → s.vm.findClass y.cls = some m.cls → (∀ w ∈ ws, w.before args s = true) → kK D cI cZ s → va_P D vwCl wd s.heap → (∀ (pc : Nat) (ls : Array Slot), decode cc pc = .ok (.ireturn, 1) → W p l e rm s m args below meth c s.heap [] 0 0 Q (F0 m pc ls [.int x])) → ∀ ls : Array Slot, lv_has ls maxL (lv_args 0 av) → W p l e rm s m args below meth c s.heap [] 0 0 Q (F0 m 0 ls [])) : kRO l y ws rm D cI cZ av wd (some (.int x)) := by
  refine Met.ofW (cc := cc) (maxL := maxL) (ret := some .int) hy hw ?_
  intro p e s m args below meth c s₁ B hml hv
  obtain ⟨rfl, hP, hK⟩ := hv
  have hl := lv_entry av (n := maxL) hn
  rw [lg_entry_eq]
  have hlocks := B.notSynchronized
  exact body p e s m _ below meth c _ B.exec B.bytes hml (findClass_of_methodNamed B.named) (atoms_spec (ws := ws) B.pre) hK hP (fun pc ls hd => W.iret B.exec B.bytes B.returns (fun t ht hW => ⟨rfl, ht⟩) (fun q h => by cases h) hd) _ hl
theorem kx_ROl {x : Int64} (hy : plainName y.cls = true) (hw : ws = Cond.code y cc maxL (some .long) :: ws') (hn : (lg_sl av).length ≤ maxL)
    (body : ∀ (p : Program) (e : Env) (s : State) (m : MethodId) (args : Array Value) (below : List Frame) (meth : Method) (c : Code) (Q : State → Prop), p.tables.exec = Jvm.exec → c.code = cc → c.maxLocals = maxL → s.vm.findClass y.cls = some m.cls → (∀ w ∈ ws, w.before args s = true) → kK D cI cZ s → va_P D vwCl wd s.heap → (∀ (pc : Nat) (ls : Array Slot), decode cc pc = .ok (.lreturn, 1) → W p l e rm s m args below meth c s.heap [] 0 0 Q (F0 m pc ls [.long x])) → ∀ ls : Array Slot, lv_has ls maxL (lv_args 0 av) → W p l e rm s m args below meth c s.heap [] 0 0 Q (F0 m 0 ls [])) : kRO l y ws rm D cI cZ av wd (some (.long x)) := by
  refine Met.ofW (cc := cc) (maxL := maxL) (ret := some .long) hy hw ?_
  intro p e s m args below meth c s₁ B hml hv
  obtain ⟨rfl, hP, hK⟩ := hv
  have hl := lv_entry av (n := maxL) hn
  rw [lg_entry_eq]
  have hlocks := B.notSynchronized
  exact body p e s m _ below meth c _ B.exec B.bytes hml (findClass_of_methodNamed B.named) (atoms_spec (ws := ws) B.pre) hK hP (fun pc ls hd => W.lret B.exec B.bytes B.returns (fun t ht hW => ⟨rfl, ht⟩) (fun q h => by cases h) hd) _ hl
theorem kx_ROz {b : Prop} [Decidable b] (hy : plainName y.cls = true) (hw : ws = Cond.code y cc maxL (some .boolean) :: ws') (hn : (lg_sl av).length ≤ maxL)
    (body : ∀ (p : Program) (e : Env) (s : State) (m : MethodId) (args : Array Value) (below : List Frame) (meth : Method) (c : Code) (Q : State → Prop), p.tables.exec = Jvm.exec → c.code = cc → c.maxLocals = maxL → s.vm.findClass y.cls = some m.cls → (∀ w ∈ ws, w.before args s = true) → kK D cI cZ s → va_P D vwCl wd s.heap → (∀ (z : Int) (pc : Nat) (ls : Array Slot), ((z = 1 ∧ b) ∨ (z = 0 ∧ ¬ b)) → decode cc pc = .ok (.ireturn, 1) → W p l e rm s m args below meth c s.heap [] 0 0 Q (F0 m pc ls [.int (iI z)])) → ∀ ls : Array Slot, lv_has ls maxL (lv_args 0 av) → W p l e rm s m args below meth c s.heap [] 0 0 Q (F0 m 0 ls [])) : kRO l y ws rm D cI cZ av wd (some (.int (iI (if b then 1 else 0)))) := by
  refine Met.ofW (cc := cc) (maxL := maxL) (ret := some .boolean) hy hw ?_
  intro p e s m args below meth c s₁ B hml hv
  obtain ⟨rfl, hP, hK⟩ := hv
  have hl := lv_entry av (n := maxL) hn
  rw [lg_entry_eq]
  have hlocks := B.notSynchronized
  refine body p e s m _ below meth c _ B.exec B.bytes hml (findClass_of_methodNamed B.named) (atoms_spec (ws := ws) B.pre) hK hP (fun z pc ls hz hd => ?_) _ hl
  rcases hz with ⟨rfl, hb⟩ | ⟨rfl, hb⟩
  · exact W.zret (ty := .boolean) B.exec B.bytes B.returns rfl (fun t ht hW => ⟨by rw [if_pos hb], ht⟩) (fun q h => by cases h) hd
  · exact W.zret (ty := .boolean) B.exec B.bytes B.returns rfl (fun t ht hW => ⟨by rw [if_neg hb], ht⟩) (fun q h => by cases h) hd
theorem kx_WRv {S : Type} {post : S → Prop} {w1 : S → va_W} {mc ms : Nat} (hy : plainName y.cls = true) (hw : ws = Cond.code y cc maxL none :: ws') (hn : (lg_sl av).length ≤ maxL)
    (body : ∀ (p : Program) (e : Env) (s : State) (m : MethodId) (args : Array Value) (below : List Frame) (meth : Method) (c : Code) (Q : State → Prop) (A : Nat → Prop), p.tables.exec = Jvm.exec → c.code = cc → c.maxLocals = maxL → s.vm.findClass y.cls = some m.cls → (∀ w ∈ ws, w.before args s = true) → kK D cI cZ s → meth.name = y.name → (∀ q : Nat, s.heap.size ≤ q → A q) → va_P D vwCl wd s.heap → va_D A wd → va_S A s.heap s.heap [] → (∀ (u : S) (H : Heap) (locs : List Loc) (pc : Nat) (ls : Array Slot), post u → va_P D vwCl (w1 u) H → va_D A (w1 u) → va_S A s.heap H locs → decode cc pc = .ok (.return_, 1) → W p l e rm s m args below meth c H locs mc ms Q (F0 m pc ls [])) → ∀ ls : Array Slot, lv_has ls maxL (lv_args 0 av) → W p l e rm s m args below meth c s.heap [] 0 0 Q (F0 m 0 ls [])) : kWR l y ws rm D cI cZ av wd (fun _ : S => none) post w1 mc ms := by
  intro sz
  refine Met.ofW (cc := cc) (maxL := maxL) (ret := none) hy hw ?_
  intro p e s m args below meth c s₁ B hml hv
  obtain ⟨rfl, hsz, ⟨hP, hK⟩, hD0⟩ := hv
  have hl := lv_entry av (n := maxL) hn
  rw [lg_entry_eq]
  have hlocks := B.notSynchronized
  subst hsz
  exact body p e s m _ below meth c _ _ B.exec B.bytes hml (findClass_of_methodNamed B.named) (atoms_spec (ws := ws) B.pre) hK (name_of_methodNamed B.named B.method).1 (fun q h => Or.inr h) hP hD0.self va_S.rf (fun u H locs pc ls hp hP1 hD1 hS1 hd => W.vret B.exec B.bytes B.returns (fun t ht hW => ⟨⟨u, rfl, hp, by rw [ht]; exact hP1, hD1⟩, hS1.F ht⟩) hS1.2.2 hd) _ hl
theorem kx_WRi {S : Type} {ov : S → Int32} {post : S → Prop} {w1 : S → va_W} {mc ms : Nat} (hy : plainName y.cls = true) (hw : ws = Cond.code y cc maxL (some .int) :: ws') (hn : (lg_sl av).length ≤ maxL)
    (body : ∀ (p : Program) (e : Env) (s : State) (m : MethodId) (args : Array Value) (below : List Frame) (meth : Method) (c : Code) (Q : State → Prop) (A : Nat → Prop), p.tables.exec = Jvm.exec → c.code = cc → c.maxLocals = maxL → s.vm.findClass y.cls = some m.cls → (∀ w ∈ ws, w.before args s = true) → kK D cI cZ s → meth.name = y.name → (∀ q : Nat, s.heap.size ≤ q → A q) → va_P D vwCl wd s.heap → va_D A wd → va_S A s.heap s.heap [] → (∀ (u : S) (H : Heap) (locs : List Loc) (pc : Nat) (ls : Array Slot), post u → va_P D vwCl (w1 u) H → va_D A (w1 u) → va_S A s.heap H locs → decode cc pc = .ok (.ireturn, 1) → W p l e rm s m args below meth c H locs mc ms Q (F0 m pc ls [.int (ov u)])) → ∀ ls : Array Slot, lv_has ls maxL (lv_args 0 av) → W p l e rm s m args below meth c s.heap [] 0 0 Q (F0 m 0 ls [])) : kWR l y ws rm D cI cZ av wd (fun u : S => some (.int (ov u))) post w1 mc ms := by
  intro sz
  refine Met.ofW (cc := cc) (maxL := maxL) (ret := some .int) hy hw ?_
  intro p e s m args below meth c s₁ B hml hv
  obtain ⟨rfl, hsz, ⟨hP, hK⟩, hD0⟩ := hv
  have hl := lv_entry av (n := maxL) hn
  rw [lg_entry_eq]
  have hlocks := B.notSynchronized
  subst hsz
  exact body p e s m _ below meth c _ _ B.exec B.bytes hml (findClass_of_methodNamed B.named) (atoms_spec (ws := ws) B.pre) hK (name_of_methodNamed B.named B.method).1 (fun q h => Or.inr h) hP hD0.self va_S.rf (fun u H locs pc ls hp hP1 hD1 hS1 hd => W.iret B.exec B.bytes B.returns (fun t ht hW => ⟨⟨u, rfl, hp, by rw [ht]; exact hP1, hD1⟩, hS1.F ht⟩) hS1.2.2 hd) _ hl
theorem kx_WRz {S : Type} {ov : S → Prop} [DecidablePred ov] {post : S → Prop} {w1 : S → va_W} {mc ms : Nat} (hy : plainName y.cls = true) (hw : ws = Cond.code y cc maxL (some .boolean) :: ws') (hn : (lg_sl av).length ≤ maxL)
    (body : ∀ (p : Program) (e : Env) (s : State) (m : MethodId) (args : Array Value) (below : List Frame) (meth : Method) (c : Code) (Q : State → Prop) (A : Nat → Prop), p.tables.exec = Jvm.exec → c.code = cc → c.maxLocals = maxL → s.vm.findClass y.cls = some m.cls → (∀ w ∈ ws, w.before args s = true) → kK D cI cZ s → meth.name = y.name → (∀ q : Nat, s.heap.size ≤ q → A q) → va_P D vwCl wd s.heap → va_D A wd → va_S A s.heap s.heap [] → (∀ (u : S) (z : Int) (H : Heap) (locs : List Loc) (pc : Nat) (ls : Array Slot), ((z = 1 ∧ ov u) ∨ (z = 0 ∧ ¬ ov u)) → post u → va_P D vwCl (w1 u) H → va_D A (w1 u) → va_S A s.heap H locs → decode cc pc = .ok (.ireturn, 1) → W p l e rm s m args below meth c H locs mc ms Q (F0 m pc ls [.int (iI z)])) → ∀ ls : Array Slot, lv_has ls maxL (lv_args 0 av) → W p l e rm s m args below meth c s.heap [] 0 0 Q (F0 m 0 ls [])) : kWR l y ws rm D cI cZ av wd (fun u : S => some (.int (iI (if ov u then 1 else 0)))) post w1 mc ms := by
  intro sz
  refine Met.ofW (cc := cc) (maxL := maxL) (ret := some .boolean) hy hw ?_
  intro p e s m args below meth c s₁ B hml hv
  obtain ⟨rfl, hsz, ⟨hP, hK⟩, hD0⟩ := hv
  have hl := lv_entry av (n := maxL) hn
  rw [lg_entry_eq]
  have hlocks := B.notSynchronized
  subst hsz
  refine body p e s m _ below meth c _ _ B.exec B.bytes hml (findClass_of_methodNamed B.named) (atoms_spec (ws := ws) B.pre) hK (name_of_methodNamed B.named B.method).1 (fun q h => Or.inr h) hP hD0.self va_S.rf (fun u z H locs pc ls hz hp hP1 hD1 hS1 hd => ?_) _ hl
  rcases hz with ⟨rfl, hb⟩ | ⟨rfl, hb⟩
  · exact W.zret (ty := .boolean) B.exec B.bytes B.returns rfl (fun t ht hW => ⟨⟨u, by show _ = Outcome.returned (some (Value.int (iI (if ov u then 1 else 0)))); rw [if_pos hb], hp, by rw [ht]; exact hP1, hD1⟩, hS1.F ht⟩) hS1.2.2 hd
  · exact W.zret (ty := .boolean) B.exec B.bytes B.returns rfl (fun t ht hW => ⟨⟨u, by show _ = Outcome.returned (some (Value.int (iI (if ov u then 1 else 0)))); rw [if_neg hb], hp, by rw [ht]; exact hP1, hD1⟩, hS1.F ht⟩) hS1.2.2 hd
theorem kx_WRl {S : Type} {ov : S → Int64} {post : S → Prop} {w1 : S → va_W} {mc ms : Nat} (hy : plainName y.cls = true) (hw : ws = Cond.code y cc maxL (some .long) :: ws') (hn : (lg_sl av).length ≤ maxL)
    (body : ∀ (p : Program) (e : Env) (s : State) (m : MethodId) (args : Array Value) (below : List Frame) (meth : Method) (c : Code) (Q : State → Prop) (A : Nat → Prop), p.tables.exec = Jvm.exec → c.code = cc → c.maxLocals = maxL → s.vm.findClass y.cls = some m.cls → (∀ w ∈ ws, w.before args s = true) → kK D cI cZ s → meth.name = y.name → (∀ q : Nat, s.heap.size ≤ q → A q) → va_P D vwCl wd s.heap → va_D A wd → va_S A s.heap s.heap [] → (∀ (u : S) (H : Heap) (locs : List Loc) (pc : Nat) (ls : Array Slot), post u → va_P D vwCl (w1 u) H → va_D A (w1 u) → va_S A s.heap H locs → decode cc pc = .ok (.lreturn, 1) → W p l e rm s m args below meth c H locs mc ms Q (F0 m pc ls [.long (ov u)])) → ∀ ls : Array Slot, lv_has ls maxL (lv_args 0 av) → W p l e rm s m args below meth c s.heap [] 0 0 Q (F0 m 0 ls [])) : kWR l y ws rm D cI cZ av wd (fun u : S => some (.long (ov u))) post w1 mc ms := by
  intro sz
  refine Met.ofW (cc := cc) (maxL := maxL) (ret := some .long) hy hw ?_
  intro p e s m args below meth c s₁ B hml hv
  obtain ⟨rfl, hsz, ⟨hP, hK⟩, hD0⟩ := hv
  have hl := lv_entry av (n := maxL) hn
  rw [lg_entry_eq]
  have hlocks := B.notSynchronized
  subst hsz
  exact body p e s m _ below meth c _ _ B.exec B.bytes hml (findClass_of_methodNamed B.named) (atoms_spec (ws := ws) B.pre) hK (name_of_methodNamed B.named B.method).1 (fun q h => Or.inr h) hP hD0.self va_S.rf (fun u H locs pc ls hp hP1 hD1 hS1 hd => W.lret B.exec B.bytes B.returns (fun t ht hW => ⟨⟨u, rfl, hp, by rw [ht]; exact hP1, hD1⟩, hS1.F ht⟩) hS1.2.2 hd) _ hl
end KXM
end
section
theorem kx_Psub {D : va_G} {cl : List vw_C} {ws wc : va_W} {H : Heap} (hP : va_P D cl ws H) (isC : List Nat) (hC : isC.map (fun i => ws[i]?) = wc.map some) : va_P D cl wc H := by
  intro k q hk
  have h1 : (isC.map (fun i => ws[i]?))[k]? = some (some q) := by rw [hC, List.getElem?_map, hk]; rfl
  rw [List.getElem?_map] at h1
  cases hi : isC[k]? with
  | none => rw [hi] at h1; cases h1
  | some i => rw [hi] at h1; exact hP i q (Option.some.inj h1)
section KXR
variable {p : Program} {l : Launch} {e : Env} {R : Room} {s : State} {m : MethodId} {args : Array Value} {below : List Frame} {meth : Method} {c : Code} {H : Heap} {locs : List Loc} {cells slots : Nat} {Q : State → Prop}
variable {cc : ByteArray} {pc : Nat} {ls : Array Slot} {rest : List Value} {D : va_G} {A : Nat → Prop} {a : Nat} {ws : va_W} {H0 : Heap} {cI cZ : ClassId}
theorem kx_const {z : Int} {n : Int} (hx : p.tables.exec = Jvm.exec) (hb : c.code = cc) (hdg : decode cc pc = .ok (.iconst n, 1)) (hz : n = z) (k : W p l e R s m args below meth c H locs cells slots Q (F0 m (pc + 1) ls (.int (iI z) :: rest))) : W p l e R s m args below meth c H locs cells slots Q (F0 m pc ls rest) :=
  lv_iconst (v := iI z) hx hb hdg (by rw [hz]; rfl) k
theorem kx_bipush {z : Int} {n : Int} (hx : p.tables.exec = Jvm.exec) (hb : c.code = cc) (hdg : decode cc pc = .ok (.bipush n, 2)) (hz : (Int8.ofInt n).toInt32 = iI z) (k : W p l e R s m args below meth c H locs cells slots Q (F0 m (pc + 2) ls (.int (iI z) :: rest))) : W p l e R s m args below meth c H locs cells slots Q (F0 m pc ls rest) :=
  lv_bipush (v := iI z) hx hb hdg hz k
theorem kx_sipush {z : Int} {n : Int} (hx : p.tables.exec = Jvm.exec) (hb : c.code = cc) (hdg : decode cc pc = .ok (.sipush n, 3)) (hz : (Int16.ofInt n).toInt32 = iI z) (k : W p l e R s m args below meth c H locs cells slots Q (F0 m (pc + 3) ls (.int (iI z) :: rest))) : W p l e R s m args below meth c H locs cells slots Q (F0 m pc ls rest) :=
  lv_sipush (v := iI z) hx hb hdg hz k
theorem kx_ldc {z : Int} {own : String} {index : Nat} {v : Int32} (hx : p.tables.exec = Jvm.exec) (hb : c.code = cc) (hown : s.vm.findClass own = some m.cls) (hconst : (Jvm.Cond.constant own index v).before args s = true) (hdg : decode cc pc = .ok (.ldc index, 2)) (hv : v = iI z) (k : W p l e R s m args below meth c H locs cells slots Q (F0 m (pc + 2) ls (.int (iI z) :: rest))) : W p l e R s m args below meth c H locs cells slots Q (F0 m pc ls rest) := by
  subst hv
  exact lv_ldc hx hb hown hconst hdg k
theorem kx_iadd {a b : Int} (hx : p.tables.exec = Jvm.exec) (hb : c.code = cc) (hdg : decode cc pc = .ok (.iadd, 1)) (k : W p l e R s m args below meth c H locs cells slots Q (F0 m (pc + 1) ls (.int (iI (a + b)) :: rest))) : W p l e R s m args below meth c H locs cells slots Q (F0 m pc ls (.int (iI b) :: .int (iI a) :: rest)) := by
  refine lv_iadd hx hb hdg ?_
  rw [iI_add]
  exact k
theorem kx_isub {a b : Int} (hx : p.tables.exec = Jvm.exec) (hb : c.code = cc) (hdg : decode cc pc = .ok (.isub, 1)) (k : W p l e R s m args below meth c H locs cells slots Q (F0 m (pc + 1) ls (.int (iI (a - b)) :: rest))) : W p l e R s m args below meth c H locs cells slots Q (F0 m pc ls (.int (iI b) :: .int (iI a) :: rest)) := by
  refine lv_isub hx hb hdg ?_
  rw [iI_sub]
  exact k
theorem kx_imul {a b : Int} (hx : p.tables.exec = Jvm.exec) (hb : c.code = cc) (hdg : decode cc pc = .ok (.imul, 1)) (k : W p l e R s m args below meth c H locs cells slots Q (F0 m (pc + 1) ls (.int (iI (a * b)) :: rest))) : W p l e R s m args below meth c H locs cells slots Q (F0 m pc ls (.int (iI b) :: .int (iI a) :: rest)) := by
  refine lv_imul hx hb hdg ?_
  rw [iI_mul]
  exact k
theorem kx_ineg {a : Int} (hx : p.tables.exec = Jvm.exec) (hb : c.code = cc) (hdg : decode cc pc = .ok (.ineg, 1)) (k : W p l e R s m args below meth c H locs cells slots Q (F0 m (pc + 1) ls (.int (iI (-a)) :: rest))) : W p l e R s m args below meth c H locs cells slots Q (F0 m pc ls (.int (iI a) :: rest)) := by
  refine lv_ineg hx hb hdg ?_
  rw [iI_neg]
  exact k
theorem kx_idiv {a b : Int} (hx : p.tables.exec = Jvm.exec) (hb : c.code = cc) (ha : 0 ≤ a ∧ a < 2147483648) (hb2 : 0 < b ∧ b < 2147483648) (hdg : decode cc pc = .ok (.idiv, 1)) (k : W p l e R s m args below meth c H locs cells slots Q (F0 m (pc + 1) ls (.int (iI (a / b)) :: rest))) : W p l e R s m args below meth c H locs cells slots Q (F0 m pc ls (.int (iI b) :: .int (iI a) :: rest)) := by
  refine lv_idiv hx hb hdg (iI_ne0 hb2) ?_
  rw [iI_div ha hb2]
  exact k
theorem kx_irem {a b : Int} (hx : p.tables.exec = Jvm.exec) (hb : c.code = cc) (ha : 0 ≤ a ∧ a < 2147483648) (hb2 : 0 < b ∧ b < 2147483648) (hdg : decode cc pc = .ok (.irem, 1)) (k : W p l e R s m args below meth c H locs cells slots Q (F0 m (pc + 1) ls (.int (iI (a % b)) :: rest))) : W p l e R s m args below meth c H locs cells slots Q (F0 m pc ls (.int (iI b) :: .int (iI a) :: rest)) := by
  refine lv_irem hx hb hdg (iI_ne0 hb2) ?_
  rw [iI_rem ha hb2]
  exact k
theorem kx_iinc {a z : Int} {i nL k0 : Nat} {n : Int} {lv lv' : List (Nat × Value)} (hx : p.tables.exec = Jvm.exec) (hb : c.code = cc) (hdg : decode cc pc = .ok (.iinc i n, 3)) (h : lv_has ls nL lv) (hk : lv[k0]? = some (i, .int (iI a))) (hv : a + n = z) (hn : i < nL) (hl : (i, Value.int (iI z)) :: lv.filter (fun q => !(q.1 == i) && !(q.1 + 1 == i && q.2.category == 2)) = lv') (k : ∀ ls' : Array Slot, lv_has ls' nL lv' → W p l e R s m args below meth c H locs cells slots Q (F0 m (pc + 3) ls' rest)) : W p l e R s m args below meth c H locs cells slots Q (F0 m pc ls rest) :=
  lv_iinc (v := iI z) hx hb hdg h hk (by rw [← hv]; exact iI_add a n) hn hl k
/-- the number on top, by another name -/
theorem kx_top {a b : Int} (h : a = b) (k : W p l e R s m args below meth c H locs cells slots Q (F0 m pc ls (.int (iI b) :: rest))) : W p l e R s m args below meth c H locs cells slots Q (F0 m pc ls (.int (iI a) :: rest)) := by
  rw [h]; exact k
theorem kx_topx {a b : Int32} (h : a = b) (k : W p l e R s m args below meth c H locs cells slots Q (F0 m pc ls (.int b :: rest))) : W p l e R s m args below meth c H locs cells slots Q (F0 m pc ls (.int a :: rest)) := by
  rw [h]; exact k
theorem kx_topl {a b : Int64} (h : a = b) (k : W p l e R s m args below meth c H locs cells slots Q (F0 m pc ls (.long b :: rest))) : W p l e R s m args below meth c H locs cells slots Q (F0 m pc ls (.long a :: rest)) := by
  rw [h]; exact k
theorem kx_icmp_eq {a b : Int} (hx : p.tables.exec = Jvm.exec) (hb : c.code = cc) {off : Int} {tgt : Nat} (ha : -2147483648 ≤ a ∧ a < 2147483648) (hb2 : -2147483648 ≤ b ∧ b < 2147483648) (hdg : decode cc pc = .ok (.if_icmp .eq off, 3)) (ht : (pc : Int) + off = (tgt : Int))
    (kt : a = b → W p l e R s m args below meth c H locs cells slots Q (F0 m tgt ls rest)) (kf : a ≠ b → W p l e R s m args below meth c H locs cells slots Q (F0 m (pc + 3) ls rest)) : W p l e R s m args below meth c H locs cells slots Q (F0 m pc ls (.int (iI b) :: .int (iI a) :: rest)) :=
  lv_icmp_eq hx hb hdg ht (fun h => kt ((iI_eq ha hb2).mp h)) (fun h => kf (fun h2 => h ((iI_eq ha hb2).mpr h2)))
theorem kx_icmp_ne {a b : Int} (hx : p.tables.exec = Jvm.exec) (hb : c.code = cc) {off : Int} {tgt : Nat} (ha : -2147483648 ≤ a ∧ a < 2147483648) (hb2 : -2147483648 ≤ b ∧ b < 2147483648) (hdg : decode cc pc = .ok (.if_icmp .ne off, 3)) (ht : (pc : Int) + off = (tgt : Int))
    (kt : a ≠ b → W p l e R s m args below meth c H locs cells slots Q (F0 m tgt ls rest)) (kf : a = b → W p l e R s m args below meth c H locs cells slots Q (F0 m (pc + 3) ls rest)) : W p l e R s m args below meth c H locs cells slots Q (F0 m pc ls (.int (iI b) :: .int (iI a) :: rest)) :=
  lv_icmp_ne hx hb hdg ht (fun h => kt (fun h2 => h ((iI_eq ha hb2).mpr h2))) (fun h => kf ((iI_eq ha hb2).mp h))
theorem kx_icmp_lt {a b : Int} (hx : p.tables.exec = Jvm.exec) (hb : c.code = cc) {off : Int} {tgt : Nat} (ha : -2147483648 ≤ a ∧ a < 2147483648) (hb2 : -2147483648 ≤ b ∧ b < 2147483648) (hdg : decode cc pc = .ok (.if_icmp .lt off, 3)) (ht : (pc : Int) + off = (tgt : Int))
    (kt : a < b → W p l e R s m args below meth c H locs cells slots Q (F0 m tgt ls rest)) (kf : b ≤ a → W p l e R s m args below meth c H locs cells slots Q (F0 m (pc + 3) ls rest)) : W p l e R s m args below meth c H locs cells slots Q (F0 m pc ls (.int (iI b) :: .int (iI a) :: rest)) :=
  lv_icmp_lt hx hb hdg ht (fun h => kt ((iI_lt ha hb2).mp h)) (fun h => kf (Int.not_lt.mp (fun h2 => h ((iI_lt ha hb2).mpr h2))))
theorem kx_icmp_ge {a b : Int} (hx : p.tables.exec = Jvm.exec) (hb : c.code = cc) {off : Int} {tgt : Nat} (ha : -2147483648 ≤ a ∧ a < 2147483648) (hb2 : -2147483648 ≤ b ∧ b < 2147483648) (hdg : decode cc pc = .ok (.if_icmp .ge off, 3)) (ht : (pc : Int) + off = (tgt : Int))
    (kt : b ≤ a → W p l e R s m args below meth c H locs cells slots Q (F0 m tgt ls rest)) (kf : a < b → W p l e R s m args below meth c H locs cells slots Q (F0 m (pc + 3) ls rest)) : W p l e R s m args below meth c H locs cells slots Q (F0 m pc ls (.int (iI b) :: .int (iI a) :: rest)) :=
  lv_icmp_ge hx hb hdg ht (fun h => kt ((iI_le hb2 ha).mp h)) (fun h => kf (Int.not_le.mp (fun h2 => h ((iI_le hb2 ha).mpr h2))))
theorem kx_icmp_gt {a b : Int} (hx : p.tables.exec = Jvm.exec) (hb : c.code = cc) {off : Int} {tgt : Nat} (ha : -2147483648 ≤ a ∧ a < 2147483648) (hb2 : -2147483648 ≤ b ∧ b < 2147483648) (hdg : decode cc pc = .ok (.if_icmp .gt off, 3)) (ht : (pc : Int) + off = (tgt : Int))
    (kt : b < a → W p l e R s m args below meth c H locs cells slots Q (F0 m tgt ls rest)) (kf : a ≤ b → W p l e R s m args below meth c H locs cells slots Q (F0 m (pc + 3) ls rest)) : W p l e R s m args below meth c H locs cells slots Q (F0 m pc ls (.int (iI b) :: .int (iI a) :: rest)) :=
  lv_icmp_gt hx hb hdg ht (fun h => kt ((iI_lt hb2 ha).mp h)) (fun h => kf (Int.not_lt.mp (fun h2 => h ((iI_lt hb2 ha).mpr h2))))
theorem kx_icmp_le {a b : Int} (hx : p.tables.exec = Jvm.exec) (hb : c.code = cc) {off : Int} {tgt : Nat} (ha : -2147483648 ≤ a ∧ a < 2147483648) (hb2 : -2147483648 ≤ b ∧ b < 2147483648) (hdg : decode cc pc = .ok (.if_icmp .le off, 3)) (ht : (pc : Int) + off = (tgt : Int))
    (kt : a ≤ b → W p l e R s m args below meth c H locs cells slots Q (F0 m tgt ls rest)) (kf : b < a → W p l e R s m args below meth c H locs cells slots Q (F0 m (pc + 3) ls rest)) : W p l e R s m args below meth c H locs cells slots Q (F0 m pc ls (.int (iI b) :: .int (iI a) :: rest)) :=
  lv_icmp_le hx hb hdg ht (fun h => kt ((iI_le ha hb2).mp h)) (fun h => kf (Int.not_le.mp (fun h2 => h ((iI_le ha hb2).mpr h2))))
theorem kx_if_eq {a : Int} (hx : p.tables.exec = Jvm.exec) (hb : c.code = cc) {off : Int} {tgt : Nat} (ha : -2147483648 ≤ a ∧ a < 2147483648) (hdg : decode cc pc = .ok (.ifCond .eq off, 3)) (ht : (pc : Int) + off = (tgt : Int))
    (kt : a = 0 → W p l e R s m args below meth c H locs cells slots Q (F0 m tgt ls rest)) (kf : a ≠ 0 → W p l e R s m args below meth c H locs cells slots Q (F0 m (pc + 3) ls rest)) : W p l e R s m args below meth c H locs cells slots Q (F0 m pc ls (.int (iI a) :: rest)) :=
  lv_if_eq hx hb hdg ht (fun h => kt ((iI_eq ha (b := 0) (by decide)).mp h)) (fun h => kf (fun h2 => h ((iI_eq ha (b := 0) (by decide)).mpr h2)))
theorem kx_if_ne {a : Int} (hx : p.tables.exec = Jvm.exec) (hb : c.code = cc) {off : Int} {tgt : Nat} (ha : -2147483648 ≤ a ∧ a < 2147483648) (hdg : decode cc pc = .ok (.ifCond .ne off, 3)) (ht : (pc : Int) + off = (tgt : Int))
    (kt : a ≠ 0 → W p l e R s m args below meth c H locs cells slots Q (F0 m tgt ls rest)) (kf : a = 0 → W p l e R s m args below meth c H locs cells slots Q (F0 m (pc + 3) ls rest)) : W p l e R s m args below meth c H locs cells slots Q (F0 m pc ls (.int (iI a) :: rest)) :=
  lv_if_ne hx hb hdg ht (fun h => kt (fun h2 => h ((iI_eq ha (b := 0) (by decide)).mpr h2))) (fun h => kf ((iI_eq ha (b := 0) (by decide)).mp h))
theorem kx_if_lt {a : Int} (hx : p.tables.exec = Jvm.exec) (hb : c.code = cc) {off : Int} {tgt : Nat} (ha : -2147483648 ≤ a ∧ a < 2147483648) (hdg : decode cc pc = .ok (.ifCond .lt off, 3)) (ht : (pc : Int) + off = (tgt : Int))
    (kt : a < 0 → W p l e R s m args below meth c H locs cells slots Q (F0 m tgt ls rest)) (kf : 0 ≤ a → W p l e R s m args below meth c H locs cells slots Q (F0 m (pc + 3) ls rest)) : W p l e R s m args below meth c H locs cells slots Q (F0 m pc ls (.int (iI a) :: rest)) :=
  lv_if_lt hx hb hdg ht (fun h => kt ((iI_lt ha (b := 0) (by decide)).mp h)) (fun h => kf (Int.not_lt.mp (fun h2 => h ((iI_lt ha (b := 0) (by decide)).mpr h2))))
theorem kx_if_ge {a : Int} (hx : p.tables.exec = Jvm.exec) (hb : c.code = cc) {off : Int} {tgt : Nat} (ha : -2147483648 ≤ a ∧ a < 2147483648) (hdg : decode cc pc = .ok (.ifCond .ge off, 3)) (ht : (pc : Int) + off = (tgt : Int))
    (kt : 0 ≤ a → W p l e R s m args below meth c H locs cells slots Q (F0 m tgt ls rest)) (kf : a < 0 → W p l e R s m args below meth c H locs cells slots Q (F0 m (pc + 3) ls rest)) : W p l e R s m args below meth c H locs cells slots Q (F0 m pc ls (.int (iI a) :: rest)) :=
  lv_if_ge hx hb hdg ht (fun h => kt ((iI_le (a := 0) (by decide) ha).mp h)) (fun h => kf (Int.not_le.mp (fun h2 => h ((iI_le (a := 0) (by decide) ha).mpr h2))))
theorem kx_if_le {a : Int} (hx : p.tables.exec = Jvm.exec) (hb : c.code = cc) {off : Int} {tgt : Nat} (ha : -2147483648 ≤ a ∧ a < 2147483648) (hdg : decode cc pc = .ok (.ifCond .le off, 3)) (ht : (pc : Int) + off = (tgt : Int))
    (kt : a ≤ 0 → W p l e R s m args below meth c H locs cells slots Q (F0 m tgt ls rest)) (kf : 0 < a → W p l e R s m args below meth c H locs cells slots Q (F0 m (pc + 3) ls rest)) : W p l e R s m args below meth c H locs cells slots Q (F0 m pc ls (.int (iI a) :: rest)) :=
  lv_if_le hx hb hdg ht (fun h => kt ((iI_le ha (b := 0) (by decide)).mp h)) (fun h => kf (Int.not_le.mp (fun h2 => h ((iI_le ha (b := 0) (by decide)).mpr h2))))
/-- a boolean answer is asked -/
theorem kx_if_eqB {b : Prop} [Decidable b] (hx : p.tables.exec = Jvm.exec) (hb : c.code = cc) {off : Int} {tgt : Nat} (hdg : decode cc pc = .ok (.ifCond .eq off, 3)) (ht : (pc : Int) + off = (tgt : Int))
    (kt : ¬ b → W p l e R s m args below meth c H locs cells slots Q (F0 m tgt ls rest)) (kf : b → W p l e R s m args below meth c H locs cells slots Q (F0 m (pc + 3) ls rest)) : W p l e R s m args below meth c H locs cells slots Q (F0 m pc ls (.int (iI (if b then 1 else 0)) :: rest)) := by
  by_cases h : b
  · rw [if_pos h]
    exact kx_if_eq hx hb (by decide) hdg ht (fun h2 => absurd h2 (by decide)) (fun _ => kf h)
  · rw [if_neg h]
    exact kx_if_eq hx hb (by decide) hdg ht (fun _ => kt h) (fun h2 => absurd rfl h2)
theorem kx_if_neB {b : Prop} [Decidable b] (hx : p.tables.exec = Jvm.exec) (hb : c.code = cc) {off : Int} {tgt : Nat} (hdg : decode cc pc = .ok (.ifCond .ne off, 3)) (ht : (pc : Int) + off = (tgt : Int))
    (kt : b → W p l e R s m args below meth c H locs cells slots Q (F0 m tgt ls rest)) (kf : ¬ b → W p l e R s m args below meth c H locs cells slots Q (F0 m (pc + 3) ls rest)) : W p l e R s m args below meth c H locs cells slots Q (F0 m pc ls (.int (iI (if b then 1 else 0)) :: rest)) := by
  by_cases h : b
  · rw [if_pos h]
    exact kx_if_ne hx hb (by decide) hdg ht (fun _ => kt h) (fun h2 => absurd h2 (by decide))
  · rw [if_neg h]
    exact kx_if_ne hx hb (by decide) hdg ht (fun h2 => absurd rfl h2) (fun _ => kf h)
-- arrays
theorem kx_iald {n k : Nat} {g : Nat → Int} {z : Int} (hx : p.tables.exec = Jvm.exec) (hb : c.code = cc) (hK : kK D cI cZ s) (hP : va_P D vwCl ws H) (q0 : Nat) (ha : ws[q0]? = some (a, aI cI n g)) (hz : z = k) (hk : k < n) (hn : n < 2147483648) (hdg : decode cc pc = .ok (.iaload, 1))
    (kk : W p l e R s m args below meth c H locs cells slots Q (F0 m (pc + 1) ls (.int (iI (g k)) :: rest))) : W p l e R s m args below meth c H locs cells slots Q (F0 m pc ls (.int (iI z) :: .ref a :: rest)) := by
  refine va_iald hx hb hK.1 hP q0 0 ha rfl (iI_in hz hk hn) hdg ?_
  rw [iI_cl hz (Nat.lt_trans hk hn)]
  exact kk
theorem kx_zald {n k : Nat} {g : Nat → Int} {z : Int} (hx : p.tables.exec = Jvm.exec) (hb : c.code = cc) (hK : kK D cI cZ s) (hP : va_P D vwCl ws H) (q0 : Nat) (ha : ws[q0]? = some (a, aI cZ n g)) (hz : z = k) (hk : k < n) (hn : n < 2147483648) (hdg : decode cc pc = .ok (.baload, 1))
    (kk : W p l e R s m args below meth c H locs cells slots Q (F0 m (pc + 1) ls (.int (iI (g k)) :: rest))) : W p l e R s m args below meth c H locs cells slots Q (F0 m pc ls (.int (iI z) :: .ref a :: rest)) := by
  refine va_zald hx hb hK.1 hP q0 1 ha rfl (iI_in hz hk hn) hdg ?_
  rw [iI_cl hz (Nat.lt_trans hk hn)]
  exact kk
theorem kx_iast {n k : Nat} {g : Nat → Int} {z x : Int} (hx : p.tables.exec = Jvm.exec) (hb : c.code = cc) (hK : kK D cI cZ s) (hP : va_P D vwCl ws H) (hD : va_D A ws) (hS : va_S A H0 H locs) (q0 : Nat) (ha : ws[q0]? = some (a, aI cI n g)) (hz : z = k) (hk : k < n) (hn : n < 2147483648) (hdg : decode cc pc = .ok (.iastore, 1))
    (kk : ∀ (H1 : Heap) (locs1 : List Loc), va_P D vwCl (ws.set q0 (a, aI cI n (va_up g k x))) H1 → va_D A (ws.set q0 (a, aI cI n (va_up g k x))) → va_S A H0 H1 locs1 → W p l e R s m args below meth c H1 locs1 cells slots Q (F0 m (pc + 1) ls rest)) : W p l e R s m args below meth c H locs cells slots Q (F0 m pc ls (.int (iI x) :: .int (iI z) :: .ref a :: rest)) := by
  refine va_iast hx hb hK.1 hP hD hS q0 0 ha rfl (iI_in hz hk hn) hdg ?_
  rw [iI_cl hz (Nat.lt_trans hk hn), aI_upd]
  exact kk
theorem kx_nar (x : Int) (h : x = 0 ∨ x = 1) : vp_nar .boolean (iI x) = iI x := by
  rcases h with rfl | rfl <;> rfl
theorem kx_zast {n k : Nat} {g : Nat → Int} {z x : Int} (hx : p.tables.exec = Jvm.exec) (hb : c.code = cc) (hK : kK D cI cZ s) (hP : va_P D vwCl ws H) (hD : va_D A ws) (hS : va_S A H0 H locs) (q0 : Nat) (ha : ws[q0]? = some (a, aI cZ n g)) (hz : z = k) (hk : k < n) (hn : n < 2147483648) (h01 : x = 0 ∨ x = 1) (hdg : decode cc pc = .ok (.bastore, 1))
    (kk : ∀ (H1 : Heap) (locs1 : List Loc), va_P D vwCl (ws.set q0 (a, aI cZ n (va_up g k x))) H1 → va_D A (ws.set q0 (a, aI cZ n (va_up g k x))) → va_S A H0 H1 locs1 → W p l e R s m args below meth c H1 locs1 cells slots Q (F0 m (pc + 1) ls rest)) : W p l e R s m args below meth c H locs cells slots Q (F0 m pc ls (.int (iI x) :: .int (iI z) :: .ref a :: rest)) := by
  refine va_zast hx hb hK.1 hP hD hS q0 1 ha rfl (iI_in hz hk hn) hdg ?_
  rw [iI_cl hz (Nat.lt_trans hk hn), kx_nar x h01, aI_upd]
  exact kk
theorem kx_max {own : String} {index : Nat} {x y : Int} (hx : p.tables.exec = Jvm.exec) (hb : c.code = cc) (hml : c.maxLocals = ls.size) (hown : s.vm.findClass own = some m.cls) (hlink : (Cond.methodLink own index Lib.Math.max.name).before args s = true) (hstat : (Cond.static Lib.Math.max.name).before args s = true) (hini : (Cond.initialized "java/lang/Math").before args s = true) (hcode : (Cond.code Lib.Math.max.name Lib.Math.max.code 2 (some .int)).before args s = true)
    (hframes : 1 ≤ R.frames) (hlocals : (rest.map fun v => v.category).sum + 13 ≤ R.locals) (hc : cells ≤ R.cells) (hs : slots ≤ R.slots) (h1 : -2147483648 ≤ x ∧ x < 2147483648) (h2 : -2147483648 ≤ y ∧ y < 2147483648) (hdg : decode cc pc = .ok (.invokestatic index, 3))
    (kk : W p l e R s m args below meth c H locs cells slots Q (F0 m (pc + 3) ls (.int (iI (max x y)) :: rest))) : W p l e R s m args below meth c H locs cells slots Q (F0 m pc ls (.int (iI y) :: .int (iI x) :: rest)) := by
  refine va_mmax hx hb hml hown hlink hstat hini hcode hframes hlocals hc hs hdg ?_
  rw [show (if iI x < iI y then iI y else iI x) = iI (max x y) by
    by_cases h : x < y
    · rw [if_pos ((iI_lt h1 h2).mpr h), show max x y = y by omega]
    · rw [if_neg (fun q => h ((iI_lt h1 h2).mp q)), show max x y = x by omega]]
  exact kk
theorem kx_min {own : String} {index : Nat} {x y : Int} (hx : p.tables.exec = Jvm.exec) (hb : c.code = cc) (hml : c.maxLocals = ls.size) (hown : s.vm.findClass own = some m.cls) (hlink : (Cond.methodLink own index Lib.Math.min.name).before args s = true) (hstat : (Cond.static Lib.Math.min.name).before args s = true) (hini : (Cond.initialized "java/lang/Math").before args s = true) (hcode : (Cond.code Lib.Math.min.name Lib.Math.min.code 2 (some .int)).before args s = true)
    (hframes : 1 ≤ R.frames) (hlocals : (rest.map fun v => v.category).sum + 13 ≤ R.locals) (hc : cells ≤ R.cells) (hs : slots ≤ R.slots) (h1 : -2147483648 ≤ x ∧ x < 2147483648) (h2 : -2147483648 ≤ y ∧ y < 2147483648) (hdg : decode cc pc = .ok (.invokestatic index, 3))
    (kk : W p l e R s m args below meth c H locs cells slots Q (F0 m (pc + 3) ls (.int (iI (min x y)) :: rest))) : W p l e R s m args below meth c H locs cells slots Q (F0 m pc ls (.int (iI y) :: .int (iI x) :: rest)) := by
  refine va_mmin hx hb hml hown hlink hstat hini hcode hframes hlocals hc hs hdg ?_
  refine kx_topx (b := iI (min x y)) ?_ kk
  by_cases h : y < x
  · first | rw [if_pos ((iI_lt h2 h1).mpr h), show min x y = y by omega] | rw [if_neg (fun q => absurd ((iI_lt h1 h2).mp q) (by omega)), show min x y = y by omega]
  · by_cases h3 : x = y
    · subst h3
      rw [show min x x = x by omega]
      simp
    · first | rw [if_neg (fun q => h ((iI_lt h2 h1).mp q)), show min x y = x by omega] | rw [if_pos ((iI_lt h1 h2).mpr (by omega)), show min x y = x by omega]
theorem kx_abs {own : String} {index : Nat} {x : Int} (hx : p.tables.exec = Jvm.exec) (hb : c.code = cc) (hml : c.maxLocals = ls.size) (hown : s.vm.findClass own = some m.cls) (hlink : (Cond.methodLink own index Lib.Math.abs.name).before args s = true) (hstat : (Cond.static Lib.Math.abs.name).before args s = true) (hini : (Cond.initialized "java/lang/Math").before args s = true) (hcode : (Cond.code Lib.Math.abs.name Lib.Math.abs.code 1 (some .int)).before args s = true)
    (hframes : 1 ≤ R.frames) (hlocals : (rest.map fun v => v.category).sum + 13 ≤ R.locals) (hc : cells ≤ R.cells) (hs : slots ≤ R.slots) (h1 : -2147483648 ≤ x ∧ x < 2147483648) (hdg : decode cc pc = .ok (.invokestatic index, 3))
    (kk : W p l e R s m args below meth c H locs cells slots Q (F0 m (pc + 3) ls (.int (iI (if x < 0 then -x else x)) :: rest))) : W p l e R s m args below meth c H locs cells slots Q (F0 m pc ls (.int (iI x) :: rest)) := by
  refine va_mabs hx hb hml hown hlink hstat hini hcode hframes hlocals hc hs hdg ?_
  refine kx_topx (b := iI (if x < 0 then -x else x)) ?_ kk
  by_cases h : x < 0
  · rw [if_pos h, if_neg (fun q : (0 : Int32) ≤ iI x => absurd ((iI_le (a := 0) (by decide) h1).mp q) (by omega)), ← iI_0, iI_sub]
    congr 1
    omega
  · rw [if_neg h, if_pos (show (0 : Int32) ≤ iI x from (iI_le (a := 0) (by decide) h1).mpr (by omega))]
-- calls
theorem kx_cV {y : MethodName} {bytes : ByteArray} {maxL nL n index : Nat} {ret : Option FieldType} {wy : List Cond} {rm : Room} {Ts : List Cond} {own C : String} {b : Addr} {As st0 st1 : List Value} {v : Option Value} {wd : va_W} {ci q0 : Nat} {fs : List Value} {T : u_T} {N : Nat}
    (S : CallFix p m c cc nL s args Ts own) (hM : kRO l y wy rm D cI cZ (.ref b :: As) wd v) (cw : CallW R s args own C index y bytes maxL ret wy rm 0 0 n) (hK : kK D cI cZ s) (hP : va_P D vwCl wd H) (hq : wd[q0]? = some (b, .inr (ci, fs))) (hc : vwCl[ci]? = some (C, T, N))
    (hn : As.length = n) (hsize : ls.size = nL) (hst0 : st0 = As.reverse ++ .ref b :: rest) (hW : (rest.map fun v => v.category).sum ≤ 8) (hdg : decode cc pc = .ok (.invokevirtual index, 3)) (hf : cells ≤ R.cells ∧ slots ≤ R.slots) (hst1 : v.toList ++ rest = st1)
    (kk : W p l e R s m args below meth c H locs cells slots Q (F0 m (pc + 3) ls st1)) : W p l e R s m args below meth c H locs cells slots Q (F0 m pc ls st0) := by
  have hr := va_runV (p := p) (e := e) (below := below) (meth := meth) (locs := locs) (cells := cells) (slots := slots) (rest := rest) (g := F0 m pc ls st0) S hM cw ⟨fun a U g mk q => ⟨q.1, q.2.1, kK.call g mk a q.2.2⟩, va_recv hK.1 hP hc hq, fun U hU hW => ⟨rfl, by rw [hU]; exact hP, kK.warm hW hK⟩⟩ rfl hn hsize hst0 (lv_room hW) hdg ⟨hf.1, hf.2⟩
  intro T hT X
  obtain ⟨v', st₀, t, T', L, h0, X', hL, e1, e2, ⟨hv, hh⟩, st⟩ := hr T hT X
  cases hv
  have hLn : L = [] := by
    cases L with
    | nil => rfl
    | cons q L => exact (hL q List.mem_cons_self).elim
  subst hLn
  rw [List.append_nil] at X'
  obtain ⟨t2, a1, b1⟩ := kk T' (by rw [e1, hh, h0]) X'
  exact ⟨t2, st t2 (by rw [← hst1] at a1; exact a1), b1⟩
theorem kx_cSN {y : MethodName} {bytes : ByteArray} {maxL nL n index : Nat} {ret : Option FieldType} {wy : List Cond} {rm : Room} {Ts : List Cond} {own host : String} {As st0 st1 : List Value} {v : Option Value} {wd : va_W}
    (S : CallFix p m c cc nL s args Ts own) (hM : kRO l y wy rm D cI cZ As wd v) (cw : va_CN R s args own index y host bytes maxL ret wy rm 0 0 n ∧ (Cond.static y).before args s = true ∧ True) (hK : kK D cI cZ s) (hP : va_P D vwCl wd H)
    (hn : As.length = n) (hsize : ls.size = nL) (hst0 : st0 = As.reverse ++ rest) (hW : (rest.map fun v => v.category).sum ≤ 8) (hdg : decode cc pc = .ok (.invokestatic index, 3)) (hf : cells ≤ R.cells ∧ slots ≤ R.slots) (hst1 : v.toList ++ rest = st1)
    (kk : W p l e R s m args below meth c H locs cells slots Q (F0 m (pc + 3) ls st1)) : W p l e R s m args below meth c H locs cells slots Q (F0 m pc ls st0) := by
  have hr := va_runSN (p := p) (e := e) (below := below) (meth := meth) (locs := locs) (cells := cells) (slots := slots) (rest := rest) (g := F0 m pc ls st0) (H := H) S hM cw ⟨fun a U g mk q => ⟨q.1, q.2.1, kK.call g mk a q.2.2⟩, fun U hU hW => ⟨rfl, by rw [hU]; exact hP, kK.warm hW hK⟩⟩ rfl hn hsize hst0 (lv_room hW) hdg ⟨hf.1, hf.2⟩
  intro T hT X
  obtain ⟨v', st₀, t, T', L, h0, X', hL, e1, e2, ⟨hv, hh⟩, st⟩ := hr T hT X
  cases hv
  have hLn : L = [] := by
    cases L with
    | nil => rfl
    | cons q L => exact (hL q List.mem_cons_self).elim
  subst hLn
  rw [List.append_nil] at X'
  obtain ⟨t2, a1, b1⟩ := kk T' (by rw [e1, hh, h0]) X'
  exact ⟨t2, st t2 (by rw [← hst1] at a1; exact a1), b1⟩
theorem kx_cS {y : MethodName} {bytes : ByteArray} {maxL nL n index : Nat} {ret : Option FieldType} {wy : List Cond} {rm : Room} {Ts : List Cond} {own : String} {As st0 st1 : List Value} {v : Option Value} {wd : va_W}
    (S : CallFix p m c cc nL s args Ts own) (hM : kRO l y wy rm D cI cZ As wd v) (cw : CallB R s args own index y bytes maxL ret wy rm 0 0 n ∧ (Cond.static y).before args s = true) (hK : kK D cI cZ s) (hP : va_P D vwCl wd H)
    (hn : As.length = n) (hsize : ls.size = nL) (hst0 : st0 = As.reverse ++ rest) (hW : (rest.map fun v => v.category).sum ≤ 8) (hdg : decode cc pc = .ok (.invokestatic index, 3)) (hf : cells ≤ R.cells ∧ slots ≤ R.slots) (hst1 : v.toList ++ rest = st1)
    (kk : W p l e R s m args below meth c H locs cells slots Q (F0 m (pc + 3) ls st1)) : W p l e R s m args below meth c H locs cells slots Q (F0 m pc ls st0) := by
  have hr := va_runS (p := p) (e := e) (below := below) (meth := meth) (locs := locs) (cells := cells) (slots := slots) (rest := rest) (g := F0 m pc ls st0) (H := H) S hM cw ⟨fun a U g mk q => ⟨q.1, q.2.1, kK.call g mk a q.2.2⟩, fun U hU hW => ⟨rfl, by rw [hU]; exact hP, kK.warm hW hK⟩⟩ rfl hn hsize hst0 (lv_room hW) hdg ⟨hf.1, hf.2⟩
  intro T hT X
  obtain ⟨v', st₀, t, T', L, h0, X', hL, e1, e2, ⟨hv, hh⟩, st⟩ := hr T hT X
  cases hv
  have hLn : L = [] := by
    cases L with
    | nil => rfl
    | cons q L => exact (hL q List.mem_cons_self).elim
  subst hLn
  rw [List.append_nil] at X'
  obtain ⟨t2, a1, b1⟩ := kk T' (by rw [e1, hh, h0]) X'
  exact ⟨t2, st t2 (by rw [← hst1] at a1; exact a1), b1⟩
/-- a call that changes its world: behind it the rest beside the new world, by places -/
theorem kx_cVW {y : MethodName} {bytes : ByteArray} {maxL nL n index mc ms : Nat} {ret : Option FieldType} {wy : List Cond} {rm : Room} {Ts : List Cond} {own C : String} {b : Addr} {As st0 : List Value} {wc wr : va_W} {S' : Type} {ov : S' → Option Value} {post : S' → Prop} {w1 : S' → va_W} {ci q0 : Nat} {fs : List Value} {T : u_T} {N : Nat}
    (S : CallFix p m c cc nL s args Ts own) (hM : kWR l y wy rm D cI cZ (.ref b :: As) wc ov post w1 mc ms) (cw : CallW R s args own C index y bytes maxL ret wy rm mc ms n) (hK : kK D cI cZ s) (hP : va_P D vwCl ws H) (hD : va_D A ws) (hS : va_S A H0 H locs) (hA : ∀ q, H0.size ≤ q → A q)
    (isC isR : List Nat) (hC : isC.map (fun i => ws[i]?) = wc.map some) (hR : isR.map (fun i => ws[i]?) = wr.map some) (hnC : va_nd isC = true) (hnR : va_nd isR = true) (hdis : ∀ i ∈ isR, i ∉ isC)
    (hq : wc[q0]? = some (b, .inr (ci, fs))) (hc : vwCl[ci]? = some (C, T, N)) (hn : As.length = n) (hsize : ls.size = nL) (hst0 : st0 = As.reverse ++ .ref b :: rest) (hW : (rest.map fun v => v.category).sum ≤ 8) (hdg : decode cc pc = .ok (.invokevirtual index, 3)) (hf : cells + mc ≤ R.cells ∧ slots + ms ≤ R.slots)
    (kk : ∀ (u : S') (H1 : Heap) (locs1 : List Loc), post u → va_P D vwCl (wr ++ w1 u) H1 → va_D A (wr ++ w1 u) → va_S A H0 H1 locs1 → W p l e R s m args below meth c H1 locs1 (cells + mc) (slots + ms) Q (F0 m (pc + 3) ls ((ov u).toList ++ rest))) : W p l e R s m args below meth c H locs cells slots Q (F0 m pc ls st0) := by
  have hF := va_free hD hS hA isC hC
  have hPc : va_P D vwCl wc H := kx_Psub hP isC hC
  have hDc : va_D A wc := hD.sub isC hnC hC
  have hr := va_runV (p := p) (e := e) (below := below) (meth := meth) (locs := locs) (cells := cells) (slots := slots) (rest := rest) (g := F0 m pc ls st0) S (hM H.size) cw ⟨fun a U g mk q => ⟨q.1, q.2.1, ⟨q.2.2.1.1, kK.call g mk a q.2.2.1.2⟩, q.2.2.2⟩, va_recv hK.1 hPc hc hq, fun U hU hW => ⟨rfl, by rw [hU], ⟨by rw [hU]; exact hPc, kK.warm hW hK⟩, hDc.weaken (fun _ _ _ _ => trivial)⟩⟩ rfl hn hsize hst0 (lv_room hW) hdg hf
  intro T hT X
  obtain ⟨v', st₀, t, T', L, h0, X', hL, e1, e2, ⟨⟨u, hv, hp, hP1, hD1⟩, hz, hk⟩, st⟩ := hr T hT X
  cases hv
  rw [h0] at hz hk
  rw [← e1] at hz hP1
  have hk1 : ∀ q : Nat, q < H.size → ¬ va_A wc H.size q → T'.heap[q]? = H[q]? := fun q h1 h2 => by rw [e1]; exact hk q h1 h2
  obtain ⟨hP2, hD2⟩ := va_join (wr := wr) hP hD isC isR hC hR hnR hdis hk1 hF hP1 hD1
  obtain ⟨t2, a1, b1⟩ := kk u T'.heap (locs ++ L) hp hP2 hD2 ⟨Nat.le_trans hS.1 hz, fun q h1 h2 => by rw [hk1 q (Nat.lt_of_lt_of_le h1 hS.1) (fun z => h2 (hF q z))]; exact hS.2.1 q h1 h2, fun q hq => by
      rcases List.mem_append.mp hq with h | h
      · exact hS.2.2 q h
      · exact hF _ (hL q h)⟩ T' rfl X'
  exact ⟨t2, st t2 a1, b1⟩
end KXR
end
section
/-- an array's cell, by another function that says the same of its places -/
theorem kx_arr {D : va_G} {A : Nat → Prop} {ws : va_W} {H : Heap} {c : ClassId} {n a : Nat} {g g' : Nat → Int} (hP : va_P D vwCl ws H) (hD : va_D A ws) (q0 : Nat) (hq : ws[q0]? = some (a, aI c n g)) (hg : ∀ k : Nat, k < n → g k = g' k) : va_P D vwCl (ws.set q0 (a, aI c n g')) H ∧ va_D A (ws.set q0 (a, aI c n g')) := by
  refine ⟨va_P.set hP hD hq ?_ (fun _ _ => rfl), va_D.set hD hq⟩
  have h : H[a]? = some (vp_cell c (n, .inl (fun k => iI (g k)))) := hP q0 _ hq
  show H[a]? = some (vp_cell c (n, .inl (fun k => iI (g' k))))
  rw [h, vp_cell_i, vp_cell_i, arrV, arrV]
  congr 3
  funext j
  rw [hg j.val j.isLt]
theorem iN_or (a b : Nat) : iI (a : Int) ||| iI (b : Int) = iI ((a ||| b : Nat) : Int) := by
  rw [← iI_nat, ← iI_nat, ← iI_nat]
  apply Int32.toBitVec_inj.1
  show BitVec.ofNat 32 a ||| BitVec.ofNat 32 b = BitVec.ofNat 32 (a ||| b)
  apply BitVec.eq_of_getLsbD_eq
  intro i hi
  simp [hi]
theorem iN_sm : ∀ n, n < 32 → ((nI n &&& 31).toBitVec.smod 32).toNat = n := by decide +kernel
theorem iN_shr {m w : Nat} (hm : m < 2147483648) (hw : w < 32) : iI (m : Int) >>> (iI (w : Int) &&& 31) = iI ((m / 2 ^ w : Nat) : Int) := by
  rw [← iI_nat, ← iI_nat, ← iI_nat]
  exact pk_shrN (by omega) _ w (iN_sm w hw)
theorem iN_shl {m w : Nat} (hw : w < 32) (hm : m * 2 ^ w < 2147483648) : iI (m : Int) <<< (iI (w : Int) &&& 31) = iI ((m * 2 ^ w : Nat) : Int) := by
  rw [← iI_nat, ← iI_nat, ← iI_nat]
  exact pk_shlN _ w (iN_sm w hw) (by omega)
theorem iN_and1 {m : Nat} (hm : m < 2147483648) : iI (m : Int) &&& iI 1 = iI ((m % 2 : Nat) : Int) := by
  rw [← iI_nat, ← iI_nat]
  exact pk_andN (by omega) 1 rfl
section KXB
variable {p : Program} {l : Launch} {e : Env} {R : Room} {s : State} {m : MethodId} {args : Array Value} {below : List Frame} {meth : Method} {c : Code} {H : Heap} {locs : List Loc} {cells slots : Nat} {Q : State → Prop}
variable {cc : ByteArray} {pc : Nat} {ls : Array Slot} {rest : List Value} {D : va_G} {A : Nat → Prop} {a : Nat} {ws : va_W} {H0 : Heap} {cI cZ : ClassId}
theorem kx_ishr {n w : Nat} (hx : p.tables.exec = Jvm.exec) (hb : c.code = cc) (hn : n < 2147483648) (hw : w < 32) (hdg : decode cc pc = .ok (.ishr, 1)) (k : W p l e R s m args below meth c H locs cells slots Q (F0 m (pc + 1) ls (.int (iI ((n / 2 ^ w : Nat) : Int)) :: rest))) : W p l e R s m args below meth c H locs cells slots Q (F0 m pc ls (.int (iI (w : Int)) :: .int (iI (n : Int)) :: rest)) := by
  refine lv_ishr hx hb hdg ?_
  rw [iN_shr hn hw]
  exact k
theorem kx_ishl {n w : Nat} (hx : p.tables.exec = Jvm.exec) (hb : c.code = cc) (hw : w < 32) (hn : n * 2 ^ w < 2147483648) (hdg : decode cc pc = .ok (.ishl, 1)) (k : W p l e R s m args below meth c H locs cells slots Q (F0 m (pc + 1) ls (.int (iI ((n * 2 ^ w : Nat) : Int)) :: rest))) : W p l e R s m args below meth c H locs cells slots Q (F0 m pc ls (.int (iI (w : Int)) :: .int (iI (n : Int)) :: rest)) := by
  refine lv_ishl hx hb hdg ?_
  rw [iN_shl hw hn]
  exact k
theorem kx_iand1 {n : Nat} (hx : p.tables.exec = Jvm.exec) (hb : c.code = cc) (hn : n < 2147483648) (hdg : decode cc pc = .ok (.iand, 1)) (k : W p l e R s m args below meth c H locs cells slots Q (F0 m (pc + 1) ls (.int (iI ((n % 2 : Nat) : Int)) :: rest))) : W p l e R s m args below meth c H locs cells slots Q (F0 m pc ls (.int (iI 1) :: .int (iI (n : Int)) :: rest)) := by
  refine lv_iand hx hb hdg ?_
  rw [iN_and1 hn]
  exact k
theorem kx_ior {n w : Nat} (hx : p.tables.exec = Jvm.exec) (hb : c.code = cc) (hdg : decode cc pc = .ok (.ior, 1)) (k : W p l e R s m args below meth c H locs cells slots Q (F0 m (pc + 1) ls (.int (iI ((n ||| w : Nat) : Int)) :: rest))) : W p l e R s m args below meth c H locs cells slots Q (F0 m pc ls (.int (iI (w : Int)) :: .int (iI (n : Int)) :: rest)) := by
  refine lv_ior hx hb hdg ?_
  rw [iN_or]
  exact k
theorem kx_copy {n0 n1 a0 : Nat} {f g : Nat → Int} {own : String} {index : Nat} {sp dp n : Nat} (hx : p.tables.exec = Jvm.exec) (hb : c.code = cc) (hml : c.maxLocals = ls.size) (hown : s.vm.findClass own = some m.cls) (hlink : (Cond.methodLink own index arraycopyName).before args s = true) (hnat : (Cond.native arraycopyName).before args s = true) (hstat : (Cond.static arraycopyName).before args s = true) (hini : (Cond.initialized "java/lang/System").before args s = true)
    (hK : kK D cI cZ s) (hP : va_P D vwCl ws H) (hD : va_D A ws) (hS : va_S A H0 H locs) (q0 q1 : Nat) (ha0 : ws[q0]? = some (a0, aI cI n0 f)) (ha1 : ws[q1]? = some (a, aI cI n1 g)) (h1 : sp < 2147483648) (h2 : dp < 2147483648) (h3 : n < 2147483648) (h4 : sp + n ≤ n0) (h5 : dp + n ≤ n1)
    (hframes : 1 ≤ R.frames) (hlocals : (rest.map fun v => v.category).sum + (nativeFrameWords "java/lang/System" "arraycopy" 5 + 11) ≤ R.locals) (hdg : decode cc pc = .ok (.invokestatic index, 3))
    (kk : ∀ (H1 : Heap) (locs1 : List Loc), va_P D vwCl (ws.set q1 (a, aI cI n1 (va_cpy f g sp dp n))) H1 → va_D A (ws.set q1 (a, aI cI n1 (va_cpy f g sp dp n))) → va_S A H0 H1 locs1 → W p l e R s m args below meth c H1 locs1 cells slots Q (F0 m (pc + 3) ls rest)) : W p l e R s m args below meth c H locs cells slots Q (F0 m pc ls (.int (iI (n : Int)) :: .int (iI (dp : Int)) :: .ref a :: .int (iI (sp : Int)) :: .ref a0 :: rest)) := by
  have nn : ∀ z : Nat, z < 2147483648 → ¬ iI (z : Int) < 0 := fun z hz h => by
    have := (iI_lt (a := (z : Int)) (b := 0) (by omega) (by decide)).mp h
    omega
  refine va_copyi hx hb hml hown hlink hnat hstat hini hK.1 hP hD hS q0 q1 0 0 ha0 ha1 rfl rfl rfl (nn sp h1) (nn dp h2) (nn n h3) (by rw [iI_cl rfl h1, iI_cl rfl h3]; exact h4) (by rw [iI_cl rfl h2, iI_cl rfl h3]; exact h5) (fun i hi => rfl) hframes hlocals hdg ?_
  rw [iI_cl rfl h1, iI_cl rfl h2, iI_cl rfl h3]
  have e : va_cpy (fun k => iI (f k)) (fun k => iI (g k)) sp dp n = fun k => iI (va_cpy f g sp dp n k) := by
    funext k
    simp only [va_cpy]
    split <;> rfl
  rw [e]
  exact kk
end KXB
end
section
def pgW (cI cZ : ClassId) (p p1 : Nat) (le : Int) (te : Nat → Int) : va_W := [(p, .inr (2, [.ref p1, .int (iI le)])), (p1, aI cI 61 te)]
def ntW (cI cZ : ClassId) (n n1 n2 n3 : Nat) (no li : Int) (dg nb wy : Nat → Int) : va_W := [(n, .inr (1, [.ref n1, .ref n2, .ref n3, .int (iI no), .int (iI li)])), (n1, aI cI 6 dg), (n2, aI cI 36 nb), (n3, aI cI 36 wy)]
def ckW (cI cZ : ClassId) (c c1 c2 c3 c4 c5 c6 n n1 n2 n3 : Nat) (pa ra fa ft dy er : Nat → Int) (ti gr ah be no li : Int) (dg nb wy : Nat → Int) : va_W := [(c, .inr (0, [.ref n, .ref c1, .ref c2, .ref c3, .ref c4, .ref c5, .ref c6, .int (iI ti), .int (iI gr), .int (iI ah), .int (iI be)])), (c1, aI cI 24 pa), (c2, aI cI 6 ra), (c3, aI cI 6 fa), (c4, aI cI 6 ft), (c5, aI cI 36 dy), (c6, aI cI 36 er), (n, .inr (1, [.ref n1, .ref n2, .ref n3, .int (iI no), .int (iI li)])), (n1, aI cI 6 dg), (n2, aI cI 36 nb), (n3, aI cI 36 wy)]
def cfW (cI cZ : ClassId) (c c1 c2 c3 c4 c5 c6 f f1 f2 f3 f4 f5 f6 n : Nat) (pa ra fa ft dy er : Nat → Int) (ti gr ah be : Int) (paf raf faf ftf dyf erf : Nat → Int) (tif grf ahf bef : Int) : va_W := [(c, .inr (0, [.ref n, .ref c1, .ref c2, .ref c3, .ref c4, .ref c5, .ref c6, .int (iI ti), .int (iI gr), .int (iI ah), .int (iI be)])), (c1, aI cI 24 pa), (c2, aI cI 6 ra), (c3, aI cI 6 fa), (c4, aI cI 6 ft), (c5, aI cI 36 dy), (c6, aI cI 36 er), (f, .inr (0, [.ref n, .ref f1, .ref f2, .ref f3, .ref f4, .ref f5, .ref f6, .int (iI tif), .int (iI grf), .int (iI ahf), .int (iI bef)])), (f1, aI cI 24 paf), (f2, aI cI 6 raf), (f3, aI cI 6 faf), (f4, aI cI 6 ftf), (f5, aI cI 36 dyf), (f6, aI cI 36 erf)]
def npW (cI cZ : ClassId) (n n1 n2 n3 p p1 : Nat) (no li : Int) (dg nb wy : Nat → Int) (le : Int) (te : Nat → Int) : va_W := [(n, .inr (1, [.ref n1, .ref n2, .ref n3, .int (iI no), .int (iI li)])), (n1, aI cI 6 dg), (n2, aI cI 36 nb), (n3, aI cI 36 wy), (p, .inr (2, [.ref p1, .int (iI le)])), (p1, aI cI 61 te)]
def cpW (cI cZ : ClassId) (c c1 c2 c3 c4 c5 c6 n n1 n2 n3 p p1 : Nat) (pa ra fa ft dy er : Nat → Int) (ti gr ah be no li : Int) (dg nb wy : Nat → Int) (le : Int) (te : Nat → Int) : va_W := [(c, .inr (0, [.ref n, .ref c1, .ref c2, .ref c3, .ref c4, .ref c5, .ref c6, .int (iI ti), .int (iI gr), .int (iI ah), .int (iI be)])), (c1, aI cI 24 pa), (c2, aI cI 6 ra), (c3, aI cI 6 fa), (c4, aI cI 6 ft), (c5, aI cI 36 dy), (c6, aI cI 36 er), (n, .inr (1, [.ref n1, .ref n2, .ref n3, .int (iI no), .int (iI li)])), (n1, aI cI 6 dg), (n2, aI cI 36 nb), (n3, aI cI 36 wy), (p, .inr (2, [.ref p1, .int (iI le)])), (p1, aI cI 61 te)]
def xW (cI cZ : ClassId) (x p p1 n n1 n2 n3 a a1 a2 a3 a4 a5 a6 k k1 k2 k3 k4 k5 k6 t t1 t2 t3 t4 t5 t6 : Nat) (le : Int) (te : Nat → Int) (no li : Int) (dg nb wy pa ra fa ft dy er : Nat → Int) (ti gr ah be : Int) (pak rak fak ftk dyk erk : Nat → Int) (tik grk ahk bek : Int) (pat rat fat ftt dyt ert : Nat → Int) (tit grt aht bet ik sp bo nr te9 : Int) : va_W := [(x, .inr (3, [.ref p, .ref n, .ref a, .ref k, .ref t, .int (iI ik), .int (iI sp), .int (iI bo), .int (iI nr), .int (iI te9)])), (p, .inr (2, [.ref p1, .int (iI le)])), (p1, aI cI 61 te), (n, .inr (1, [.ref n1, .ref n2, .ref n3, .int (iI no), .int (iI li)])), (n1, aI cI 6 dg), (n2, aI cI 36 nb), (n3, aI cI 36 wy), (a, .inr (0, [.ref n, .ref a1, .ref a2, .ref a3, .ref a4, .ref a5, .ref a6, .int (iI ti), .int (iI gr), .int (iI ah), .int (iI be)])), (a1, aI cI 24 pa), (a2, aI cI 6 ra), (a3, aI cI 6 fa), (a4, aI cI 6 ft), (a5, aI cI 36 dy), (a6, aI cI 36 er), (k, .inr (0, [.ref n, .ref k1, .ref k2, .ref k3, .ref k4, .ref k5, .ref k6, .int (iI tik), .int (iI grk), .int (iI ahk), .int (iI bek)])), (k1, aI cI 24 pak), (k2, aI cI 6 rak), (k3, aI cI 6 fak), (k4, aI cI 6 ftk), (k5, aI cI 36 dyk), (k6, aI cI 36 erk), (t, .inr (0, [.ref n, .ref t1, .ref t2, .ref t3, .ref t4, .ref t5, .ref t6, .int (iI tit), .int (iI grt), .int (iI aht), .int (iI bet)])), (t1, aI cI 24 pat), (t2, aI cI 6 rat), (t3, aI cI 6 fat), (t4, aI cI 6 ftt), (t5, aI cI 36 dyt), (t6, aI cI 36 ert)]
def mdW (cI cZ : ClassId) (h m1 m4 m5 m6 m7 m8 m9 m21 m22 m23 m24 m25 m26 m30 m31 m32 m33 m34 m35 : Nat) (pl nd lk st bo ti te nr ml nn nl du nO nT wm wb ik kt kl : Int) (hh : Int64) (pg dl er ra ck fa ft nw tu tc tr tf tt kc kr ke kd kf kg : Nat → Int) : va_W := [(h, .inr (4, [.int (iI pl), .ref m1, .int (iI nd), .int (iI lk), .ref m4, .ref m5, .ref m6, .ref m7, .ref m8, .ref m9, .int (iI st), .int (iI bo), .int (iI ti), .int (iI te), .int (iI nr), .int (iI ml), .int (iI nn), .int (iI nl), .int (iI du), .int (iI nO), .int (iI nT), .ref m21, .ref m22, .ref m23, .ref m24, .ref m25, .ref m26, .int (iI wm), .int (iI wb), .int (iI ik), .ref m30, .ref m31, .ref m32, .ref m33, .ref m34, .ref m35, .int (iI kt), .int (iI kl), .long hh])), (m1, aI cI 61 pg), (m4, aI cI 36 dl), (m5, aI cI 36 er), (m6, aI cI 6 ra), (m7, aI cI 24 ck), (m8, aI cZ 6 fa), (m9, aI cI 6 ft), (m21, aI cI 36 nw), (m22, aI cI 6 tu), (m23, aI cI 24 tc), (m24, aI cI 6 tr), (m25, aI cZ 6 tf), (m26, aI cI 6 tt), (m30, aI cI 24 kc), (m31, aI cI 6 kr), (m32, aI cI 36 ke), (m33, aI cI 36 kd), (m34, aI cZ 6 kf), (m35, aI cI 6 kg)]
-- the class's own words: page
def pgL (te : Nat → Int) (le : Int) (z : Int) : Int := if 0 ≤ z ∧ z < le then te z.toNat else (-100000001)
theorem pgL_in {te : Nat → Int} {le z : Int} (h : 0 ≤ z ∧ z < le) : pgL te le z = te z.toNat := if_pos h
theorem pgL_out {te : Nat → Int} {le z : Int} (h : ¬ (0 ≤ z ∧ z < le)) : pgL te le z = (-100000001) := if_neg h
theorem pgL_rng {te : Nat → Int} {le : Int} (hte : ∀ k : Nat, k < 61 → 0 ≤ te k ∧ te k ≤ 126) (hle : 0 ≤ le ∧ le ≤ 61) (z : Int) : -100000001 ≤ pgL te le z ∧ pgL te le z ≤ 126 := by
  by_cases h : 0 ≤ z ∧ z < le
  · rw [pgL_in h]
    have := hte z.toNat (by omega)
    omega
  · rw [pgL_out h]
    omega
-- levels
def dvU (a b : Int) : Int := if b < 1 then 0 else (a + b - 1) / b
def lvR (a st : Int) : Int := if a ≤ st then 0 else dvU (a - st) (2 * st)
theorem dvU_pos {a b : Int} (hb : 1 ≤ b) : dvU a b = (a + b - 1) / b := if_neg (by omega)
theorem dvU_bd {a b : Int} (ha : 0 ≤ a) (hb : 1 ≤ b) : 0 ≤ dvU a b ∧ dvU a b * b ≤ a + b - 1 ∧ a ≤ dvU a b * b := by
  rw [dvU_pos hb]
  have h1 := Int.emod_nonneg (a + b - 1) (b := b) (by omega)
  have h2 := Int.emod_lt_of_pos (a + b - 1) (b := b) (by omega)
  have h3 := Int.emod_def (a + b - 1) b
  have h4 : 0 ≤ (a + b - 1) / b := Int.ediv_nonneg (by omega) (by omega)
  rw [Int.mul_comm] at h3
  refine ⟨h4, ?_, ?_⟩ <;> omega
theorem lvR_lo {a st : Int} (h : a ≤ st) : lvR a st = 0 := if_pos h
theorem lvR_hi {a st : Int} (h : st < a) : lvR a st = dvU (a - st) (2 * st) := if_neg (by omega)
/-- what levelReaching answers -/
theorem lvR_bd {a st : Int} (hs : 1 ≤ st) : 0 ≤ lvR a st ∧ (2 * lvR a st + 1) * st ≤ max st (a + 2 * st) ∧ (a ≤ st ∨ a ≤ (2 * lvR a st + 1) * st) := by
  by_cases h : a ≤ st
  · rw [lvR_lo h]
    refine ⟨by omega, by omega, Or.inl h⟩
  · rw [lvR_hi (by omega)]
    obtain ⟨h1, h2, h3⟩ := dvU_bd (a := a - st) (b := 2 * st) (by omega) (by omega)
    have h4 : (2 * dvU (a - st) (2 * st) + 1) * st = dvU (a - st) (2 * st) * (2 * st) + st := by
      rw [Int.add_mul, Int.one_mul, Int.mul_comm 2, Int.mul_assoc]
    rw [h4]
    refine ⟨h1, by omega, Or.inr (by omega)⟩
end
section
def rm_X3_cell : Room := ({ frames := 0, cells := 0, slots := 0, locals := 0 } : Room)
set_option maxHeartbeats 4000000 in
set_option maxRecDepth 100000 in
theorem c_X3_cell (l : Launch) (D : va_G) (cI cZ : ClassId)  (a b : Int)  : kRO l yX3_cell wsX3_cell rm_X3_cell D cI cZ [.int (iI a), .int (iI b)] ([]) (some (.int (iI ((a * 6) + b)))) := by
  refine kx_ROi (cc := cX3_cell) (maxL := 2) (by decide) rfl (Nat.le_of_ble_eq_true rfl) ?_
  intro pr en s mi args below meth co Q hx hb hml hown hts hK hP hret ls hl
  have hown : s.vm.findClass RX3 = some mi.cls := hown
  have hl : lv_has ls 2 [(0, .int (iI a)), (1, .int (iI b))] := hl
  refine lv_iload_n hx hb dX3_cell_0 rfl (lv_at hl 0 rfl) ?_
  refine kx_bipush (z := 6) hx hb dX3_cell_1 (by decide) ?_
  refine kx_imul hx hb dX3_cell_3 ?_
  refine lv_iload_n hx hb dX3_cell_4 rfl (lv_at hl 1 rfl) ?_
  refine kx_iadd hx hb dX3_cell_5 ?_
  exact hret _ _ dX3_cell_6
def rm_X3_dividedUp : Room := ({ frames := 0, cells := 0, slots := 0, locals := 0 } : Room)
set_option maxHeartbeats 4000000 in
set_option maxRecDepth 100000 in
theorem c_X3_dividedUp (l : Launch) (D : va_G) (cI cZ : ClassId)  (a b : Int) (ha : 0 ≤ a ∧ a ≤ 1000000000) (hb2 : 0 ≤ b ∧ b ≤ 1000000) : kRO l yX3_dividedUp wsX3_dividedUp rm_X3_dividedUp D cI cZ [.int (iI a), .int (iI b)] ([]) (some (.int (iI (dvU a b)))) := by
  refine kx_ROi (cc := cX3_dividedUp) (maxL := 2) (by decide) rfl (Nat.le_of_ble_eq_true rfl) ?_
  intro pr en s mi args below meth co Q hx hb hml hown hts hK hP hret ls hl
  have hown : s.vm.findClass RX3 = some mi.cls := hown
  have hl : lv_has ls 2 [(0, .int (iI a)), (1, .int (iI b))] := hl
  refine lv_iload_n hx hb dX3_dividedUp_0 rfl (lv_at hl 1 rfl) ?_
  refine kx_const (z := 1) hx hb dX3_dividedUp_1 rfl ?_
  refine kx_icmp_ge (tgt := 9) hx hb (by omega) (by omega) dX3_dividedUp_2 (by decide) (fun h2 => ?_) (fun h2 => ?_)
  · skip
    refine lv_iload_n hx hb dX3_dividedUp_9 rfl (lv_at hl 0 rfl) ?_
    refine lv_iload_n hx hb dX3_dividedUp_10 rfl (lv_at hl 1 rfl) ?_
    refine kx_iadd hx hb dX3_dividedUp_11 ?_
    refine kx_const (z := 1) hx hb dX3_dividedUp_12 rfl ?_
    refine kx_isub hx hb dX3_dividedUp_13 ?_
    refine lv_iload_n hx hb dX3_dividedUp_14 rfl (lv_at hl 1 rfl) ?_
    refine kx_idiv hx hb (by omega) (by omega) dX3_dividedUp_15 ?_
    refine kx_top (b := (dvU a b)) (by first | (rw [dvU, if_pos (by omega)]) | (rw [dvU, if_neg (by omega)])) ?_
    exact hret _ _ dX3_dividedUp_16
  · skip
    refine kx_const (z := 0) hx hb dX3_dividedUp_5 rfl ?_
    refine lv_goto (tgt := 16) hx hb dX3_dividedUp_6 (by decide) ?_
    refine kx_top (b := (dvU a b)) (by first | (rw [dvU, if_pos (by omega)]) | (rw [dvU, if_neg (by omega)])) ?_
    exact hret _ _ dX3_dividedUp_16
def rm_X3_levelReaching : Room := ({ frames := 1, cells := 0, slots := 0, locals := 21 } : Room)
set_option maxHeartbeats 4000000 in
set_option maxRecDepth 100000 in
theorem c_X3_levelReaching (l : Launch) (D : va_G) (cI cZ : ClassId)  (a b : Int) (ha : -1000000000 ≤ a ∧ a ≤ 1000000000) (hb2 : 1 ≤ b ∧ b ≤ 500) : kRO l yX3_levelReaching wsX3_levelReaching rm_X3_levelReaching D cI cZ [.int (iI a), .int (iI b)] ([]) (some (.int (iI (lvR a b)))) := by
  refine kx_ROi (cc := cX3_levelReaching) (maxL := 2) (by decide) rfl (Nat.le_of_ble_eq_true rfl) ?_
  intro pr en s mi args below meth co Q hx hb hml hown hts hK hP hret ls hl
  have hown : s.vm.findClass RX3 = some mi.cls := hown
  have hl : lv_has ls 2 [(0, .int (iI a)), (1, .int (iI b))] := hl
  refine lv_iload_n hx hb dX3_levelReaching_0 rfl (lv_at hl 0 rfl) ?_
  refine lv_iload_n hx hb dX3_levelReaching_1 rfl (lv_at hl 1 rfl) ?_
  refine kx_icmp_gt (tgt := 9) hx hb (by omega) (by omega) dX3_levelReaching_2 (by decide) (fun h2 => ?_) (fun h2 => ?_)
  · skip
    refine lv_iload_n hx hb dX3_levelReaching_9 rfl (lv_at hl 0 rfl) ?_
    refine lv_iload_n hx hb dX3_levelReaching_10 rfl (lv_at hl 1 rfl) ?_
    refine kx_isub hx hb dX3_levelReaching_11 ?_
    refine kx_const (z := 2) hx hb dX3_levelReaching_12 rfl ?_
    refine lv_iload_n hx hb dX3_levelReaching_13 rfl (lv_at hl 1 rfl) ?_
    refine kx_imul hx hb dX3_levelReaching_14 ?_
    refine kx_cS (As := [.int (iI (a - b)), .int (iI (2 * b))]) (rest := []) (st1 := [.int (iI (dvU (a - b) (2 * b)))]) ⟨hx, hb, hml, hown, hts⟩ (c_X3_dividedUp l D cI cZ (a - b) (2 * b) (by first | assumption | omega) (by first | assumption | omega)) (va_cwS 2 hts gX3_levelReaching_X3_dividedUp rfl rfl rfl (by decide +kernel) ⟨Nat.le_of_ble_eq_true rfl, Nat.le_of_ble_eq_true rfl⟩) hK hP rfl hl.1 rfl (Nat.le_of_ble_eq_true rfl) dX3_levelReaching_15 ⟨Nat.zero_le _, Nat.zero_le _⟩ rfl ?_
    refine kx_top (b := (lvR a b)) (by first | (rw [lvR, if_pos (by omega)]) | (rw [lvR, if_neg (by omega)])) ?_
    exact hret _ _ dX3_levelReaching_18
  · skip
    refine kx_const (z := 0) hx hb dX3_levelReaching_5 rfl ?_
    refine lv_goto (tgt := 18) hx hb dX3_levelReaching_6 (by decide) ?_
    refine kx_top (b := (lvR a b)) (by first | (rw [lvR, if_pos (by omega)]) | (rw [lvR, if_neg (by omega)])) ?_
    exact hret _ _ dX3_levelReaching_18
def rm_X2_isFull : Room := ({ frames := 0, cells := 0, slots := 0, locals := 0 } : Room)
set_option maxHeartbeats 4000000 in
set_option maxRecDepth 100000 in
theorem c_X2_isFull (l : Launch) (D : va_G) (cI cZ : ClassId) (p p1 : Nat) (le : Int) (te : Nat → Int)  (hle : 0 ≤ le ∧ le ≤ 61) : kRO l yX2_isFull wsX2_isFull rm_X2_isFull D cI cZ [.ref p] (pgW cI cZ p p1 le te) (some (.int (iI (if 61 ≤ le then 1 else 0)))) := by
  refine kx_ROz (cc := cX2_isFull) (maxL := 1) (by decide) rfl (Nat.le_of_ble_eq_true rfl) ?_
  intro pr en s mi args below meth co Q hx hb hml hown hts hK hP hret ls hl
  have hown : s.vm.findClass RX2 = some mi.cls := hown
  have iX2 : ∀ w ∈ wsX20, w ∈ wsX2_isFull := by decide +kernel
  have hl : lv_has ls 1 [(0, .ref p)] := hl
  refine lv_aload_n hx hb dX2_isFull_0 rfl (lv_at hl 0 rfl) ?_
  refine va_get (D := D) (ci := 2) (v := .int (iI le)) (C := RX2) (T := TX2) (N := 2) hx hb hts iX2 hown hK.1 hP 0 rfl rfl 1 (by decide) (hts (.fieldLink RX2 15 "CloseClocks$Page" "length" "I") (by decide +kernel)) (fun _ h9 => h9) rfl dX2_isFull_1 ?_
  refine kx_bipush (z := 61) hx hb dX2_isFull_4 (by decide) ?_
  refine kx_icmp_lt (tgt := 13) hx hb (by omega) (by omega) dX2_isFull_6 (by decide) (fun h6 => ?_) (fun h6 => ?_)
  · skip
    refine kx_const (z := 0) hx hb dX2_isFull_13 rfl ?_
    exact hret 0 _ _ (Or.inr ⟨rfl, by first | omega | simp_all⟩) dX2_isFull_14
  · skip
    refine kx_const (z := 1) hx hb dX2_isFull_9 rfl ?_
    refine lv_goto (tgt := 14) hx hb dX2_isFull_10 (by decide) ?_
    exact hret 1 _ _ (Or.inl ⟨rfl, by first | omega | simp_all | (refine ⟨?_, ?_⟩ <;> omega)⟩) dX2_isFull_14
def rm_X2_append : Room := ({ frames := 0, cells := 0, slots := 0, locals := 0 } : Room)
set_option maxHeartbeats 4000000 in
set_option maxRecDepth 100000 in
theorem c_X2_append (l : Launch) (D : va_G) (cI cZ : ClassId) (p p1 : Nat) (le : Int) (te : Nat → Int) (z : Int) (hle : 0 ≤ le ∧ le < 61) : kWR l yX2_append wsX2_append rm_X2_append D cI cZ [.ref p, .int (iI z)] (pgW cI cZ p p1 le te) (fun u : Unit => some (.int (iI (le + 1)))) (fun u : Unit => True) (fun u : Unit => pgW cI cZ p p1 (le + 1) (va_up te le.toNat z)) 0 0 := by
  refine kx_WRi (cc := cX2_append) (maxL := 2) (by decide) rfl (Nat.le_of_ble_eq_true rfl) ?_
  intro pr en s mi args below meth co Q A hx hb hml hown hts hK hin hA hP hD hS hret ls hl
  have hown : s.vm.findClass RX2 = some mi.cls := hown
  have iX2 : ∀ w ∈ wsX20, w ∈ wsX2_append := by decide +kernel
  have hl : lv_has ls 2 [(0, .ref p), (1, .int (iI z))] := hl
  generalize hH0 : s.heap = H0 at hA hP hS hret ⊢
  obtain ⟨H, hH⟩ : ∃ H : Heap, H = H0 := ⟨_, rfl⟩
  obtain ⟨locs, hlocs⟩ : ∃ locs : List Loc, locs = [] := ⟨_, rfl⟩
  have hS : va_S A H0 H locs := by rw [hH, hlocs]; exact hS
  have hP : va_P D vwCl (pgW cI cZ p p1 le te) H := by rw [hH]; exact hP
  suffices hgo : W pr l en rm_X2_append s mi args below meth co H locs 0 0 Q (F0 mi 0 ls []) by rw [hH, hlocs] at hgo; exact hgo
  clear hH hlocs
  refine lv_aload_n hx hb dX2_append_0 rfl (lv_at hl 0 rfl) ?_
  refine va_get (D := D) (ci := 2) (v := .int (iI le)) (C := RX2) (T := TX2) (N := 2) hx hb hts iX2 hown hK.1 hP 0 rfl rfl 1 (by decide) (hts (.fieldLink RX2 15 "CloseClocks$Page" "length" "I") (by decide +kernel)) (fun _ h9 => h9) rfl dX2_append_1 ?_
  refine kx_bipush (z := 61) hx hb dX2_append_4 (by decide) ?_
  refine kx_icmp_ge (tgt := 29) hx hb (by omega) (by omega) dX2_append_6 (by decide) (fun h6 => ?_) (fun h6 => ?_)
  · skip
    exfalso; omega
  · skip
    refine lv_aload_n hx hb dX2_append_9 rfl (lv_at hl 0 rfl) ?_
    refine va_get (D := D) (ci := 2) (v := .ref p1) (C := RX2) (T := TX2) (N := 2) hx hb hts iX2 hown hK.1 hP 0 rfl rfl 0 (by decide) (hts (.fieldLink RX2 9 "CloseClocks$Page" "letters" "[I") (by decide +kernel)) (fun _ h9 => h9) rfl dX2_append_10 ?_
    refine lv_aload_n hx hb dX2_append_13 rfl (lv_at hl 0 rfl) ?_
    refine va_get (D := D) (ci := 2) (v := .int (iI le)) (C := RX2) (T := TX2) (N := 2) hx hb hts iX2 hown hK.1 hP 0 rfl rfl 1 (by decide) (hts (.fieldLink RX2 15 "CloseClocks$Page" "length" "I") (by decide +kernel)) (fun _ h9 => h9) rfl dX2_append_14 ?_
    refine lv_iload_n hx hb dX2_append_17 rfl (lv_at hl 1 rfl) ?_
    refine kx_iast (k := le.toNat) (x := z) hx hb hK hP hD hS 1 rfl (by omega) (by omega) (by decide) dX2_append_18 (fun H locs hP hD hS => ?_)
    have hP : va_P D vwCl (pgW cI cZ p p1 le (va_up te le.toNat z)) H := hP
    have hD : va_D A (pgW cI cZ p p1 le (va_up te le.toNat z)) := hD
    refine lv_aload_n hx hb dX2_append_19 rfl (lv_at hl 0 rfl) ?_
    refine lv_dup hx hb dX2_append_20 rfl ?_
    refine va_get (D := D) (ci := 2) (v := .int (iI le)) (C := RX2) (T := TX2) (N := 2) hx hb hts iX2 hown hK.1 hP 0 rfl rfl 1 (by decide) (hts (.fieldLink RX2 15 "CloseClocks$Page" "length" "I") (by decide +kernel)) (fun _ h9 => h9) rfl dX2_append_21 ?_
    refine kx_const (z := 1) hx hb dX2_append_24 rfl ?_
    refine kx_iadd hx hb dX2_append_25 ?_
    refine va_put (D := D) (ci := 2) (v := .int (iI (le + 1))) (ty := .int) (C := RX2) (T := TX2) (N := 2) hx hb hts iX2 tyX2 tyX2_ok nmX2 hown hK.1 hP hD hS 0 rfl rfl 1 (by decide) (hts (.fieldLink RX2 15 "CloseClocks$Page" "length" "I") (by decide +kernel)) (fun _ h9 => h9) rfl (by decide +kernel) rfl rfl (Nat.le_of_ble_eq_true rfl) dX2_append_26 (fun H locs hP hD hS => ?_)
    have hP : va_P D vwCl (pgW cI cZ p p1 (le + 1) (va_up te le.toNat z)) H := hP
    have hD : va_D A (pgW cI cZ p p1 (le + 1) (va_up te le.toNat z)) := hD
    refine lv_aload_n hx hb dX2_append_29 rfl (lv_at hl 0 rfl) ?_
    refine va_get (D := D) (ci := 2) (v := .int (iI (le + 1))) (C := RX2) (T := TX2) (N := 2) hx hb hts iX2 hown hK.1 hP 0 rfl rfl 1 (by decide) (hts (.fieldLink RX2 15 "CloseClocks$Page" "length" "I") (by decide +kernel)) (fun _ h9 => h9) rfl dX2_append_30 ?_
    refine kx_topx (b := iI (le + 1)) (by rfl) ?_
    exact hret () H locs _ _ (trivial) hP hD hS dX2_append_33
def rm_X2_empty : Room := ({ frames := 0, cells := 0, slots := 0, locals := 0 } : Room)
set_option maxHeartbeats 4000000 in
set_option maxRecDepth 100000 in
theorem c_X2_empty (l : Launch) (D : va_G) (cI cZ : ClassId) (p p1 : Nat) (le : Int) (te : Nat → Int)   : kWR l yX2_empty wsX2_empty rm_X2_empty D cI cZ [.ref p] (pgW cI cZ p p1 le te) (fun u : Unit => some (.int (iI le))) (fun u : Unit => True) (fun u : Unit => pgW cI cZ p p1 0 te) 0 0 := by
  refine kx_WRi (cc := cX2_empty) (maxL := 2) (by decide) rfl (Nat.le_of_ble_eq_true rfl) ?_
  intro pr en s mi args below meth co Q A hx hb hml hown hts hK hin hA hP hD hS hret ls hl
  have hown : s.vm.findClass RX2 = some mi.cls := hown
  have iX2 : ∀ w ∈ wsX20, w ∈ wsX2_empty := by decide +kernel
  have hl : lv_has ls 2 [(0, .ref p)] := hl
  generalize hH0 : s.heap = H0 at hA hP hS hret ⊢
  obtain ⟨H, hH⟩ : ∃ H : Heap, H = H0 := ⟨_, rfl⟩
  obtain ⟨locs, hlocs⟩ : ∃ locs : List Loc, locs = [] := ⟨_, rfl⟩
  have hS : va_S A H0 H locs := by rw [hH, hlocs]; exact hS
  have hP : va_P D vwCl (pgW cI cZ p p1 le te) H := by rw [hH]; exact hP
  suffices hgo : W pr l en rm_X2_empty s mi args below meth co H locs 0 0 Q (F0 mi 0 ls []) by rw [hH, hlocs] at hgo; exact hgo
  clear hH hlocs
  refine lv_aload_n hx hb dX2_empty_0 rfl (lv_at hl 0 rfl) ?_
  refine va_get (D := D) (ci := 2) (v := .int (iI le)) (C := RX2) (T := TX2) (N := 2) hx hb hts iX2 hown hK.1 hP 0 rfl rfl 1 (by decide) (hts (.fieldLink RX2 15 "CloseClocks$Page" "length" "I") (by decide +kernel)) (fun _ h9 => h9) rfl dX2_empty_1 ?_
  refine lv_istore_n (lv' := [(1, .int (iI le)), (0, .ref p)]) hx hb dX2_empty_4 rfl hl (by decide) rfl (fun ls hl => ?_)
  refine lv_aload_n hx hb dX2_empty_5 rfl (lv_at hl 1 rfl) ?_
  refine kx_const (z := 0) hx hb dX2_empty_6 rfl ?_
  refine va_put (D := D) (ci := 2) (v := .int (iI 0)) (ty := .int) (C := RX2) (T := TX2) (N := 2) hx hb hts iX2 tyX2 tyX2_ok nmX2 hown hK.1 hP hD hS 0 rfl rfl 1 (by decide) (hts (.fieldLink RX2 15 "CloseClocks$Page" "length" "I") (by decide +kernel)) (fun _ h9 => h9) rfl (by decide +kernel) rfl rfl (Nat.le_of_ble_eq_true rfl) dX2_empty_7 (fun H locs hP hD hS => ?_)
  have hP : va_P D vwCl (pgW cI cZ p p1 0 te) H := hP
  have hD : va_D A (pgW cI cZ p p1 0 te) := hD
  refine lv_iload_n hx hb dX2_empty_10 rfl (lv_at hl 0 rfl) ?_
  refine kx_topx (b := iI le) (by rfl) ?_
  exact hret () H locs _ _ (trivial) hP hD hS dX2_empty_11
def rm_X2_letterAt : Room := ({ frames := 0, cells := 0, slots := 0, locals := 0 } : Room)
set_option maxHeartbeats 4000000 in
set_option maxRecDepth 100000 in
theorem c_X2_letterAt (l : Launch) (D : va_G) (cI cZ : ClassId) (p p1 : Nat) (le : Int) (te : Nat → Int) (z : Int) (hle : 0 ≤ le ∧ le ≤ 61) (hz : -2147483648 ≤ z ∧ z < 2147483648) : kRO l yX2_letterAt wsX2_letterAt rm_X2_letterAt D cI cZ [.ref p, .int (iI z)] (pgW cI cZ p p1 le te) (some (.int (iI (pgL te le z)))) := by
  refine kx_ROi (cc := cX2_letterAt) (maxL := 2) (by decide) rfl (Nat.le_of_ble_eq_true rfl) ?_
  intro pr en s mi args below meth co Q hx hb hml hown hts hK hP hret ls hl
  have hown : s.vm.findClass RX2 = some mi.cls := hown
  have iX2 : ∀ w ∈ wsX20, w ∈ wsX2_letterAt := by decide +kernel
  have hl : lv_has ls 2 [(0, .ref p), (1, .int (iI z))] := hl
  refine lv_iload_n hx hb dX2_letterAt_0 rfl (lv_at hl 1 rfl) ?_
  refine kx_if_lt (tgt := 21) hx hb (by omega) dX2_letterAt_1 (by decide) (fun h1 => ?_) (fun h1 => ?_)
  · skip
    refine kx_ldc (z := -100000001) hx hb hown (hts (.constant RX2 19 (-100000001)) (by decide +kernel)) dX2_letterAt_21 (by decide) ?_
    refine kx_top (b := (pgL te le z)) (by first | (rw [pgL_in (by omega)]) | (rw [pgL_out (by omega)])) ?_
    exact hret _ _ dX2_letterAt_23
  · skip
    refine lv_iload_n hx hb dX2_letterAt_4 rfl (lv_at hl 1 rfl) ?_
    refine lv_aload_n hx hb dX2_letterAt_5 rfl (lv_at hl 0 rfl) ?_
    refine va_get (D := D) (ci := 2) (v := .int (iI le)) (C := RX2) (T := TX2) (N := 2) hx hb hts iX2 hown hK.1 hP 0 rfl rfl 1 (by decide) (hts (.fieldLink RX2 15 "CloseClocks$Page" "length" "I") (by decide +kernel)) (fun _ h9 => h9) rfl dX2_letterAt_6 ?_
    refine kx_icmp_ge (tgt := 21) hx hb (by omega) (by omega) dX2_letterAt_9 (by decide) (fun h9 => ?_) (fun h9 => ?_)
    · skip
      refine kx_ldc (z := -100000001) hx hb hown (hts (.constant RX2 19 (-100000001)) (by decide +kernel)) dX2_letterAt_21 (by decide) ?_
      refine kx_top (b := (pgL te le z)) (by first | (rw [pgL_in (by omega)]) | (rw [pgL_out (by omega)])) ?_
      exact hret _ _ dX2_letterAt_23
    · skip
      refine lv_aload_n hx hb dX2_letterAt_12 rfl (lv_at hl 0 rfl) ?_
      refine va_get (D := D) (ci := 2) (v := .ref p1) (C := RX2) (T := TX2) (N := 2) hx hb hts iX2 hown hK.1 hP 0 rfl rfl 0 (by decide) (hts (.fieldLink RX2 9 "CloseClocks$Page" "letters" "[I") (by decide +kernel)) (fun _ h9 => h9) rfl dX2_letterAt_13 ?_
      refine lv_iload_n hx hb dX2_letterAt_16 rfl (lv_at hl 1 rfl) ?_
      refine kx_iald (k := z.toNat) hx hb hK hP 1 rfl (by omega) (by omega) (by decide) dX2_letterAt_17 ?_
      refine lv_goto (tgt := 23) hx hb dX2_letterAt_18 (by decide) ?_
      refine kx_top (b := (pgL te le z)) (by first | (rw [pgL_in (by omega)]) | (rw [pgL_out (by omega)])) ?_
      exact hret _ _ dX2_letterAt_23
def rm_X2_digitAt : Room := ({ frames := 1, cells := 0, slots := 0, locals := 21 } : Room)
set_option maxHeartbeats 4000000 in
set_option maxRecDepth 100000 in
theorem c_X2_digitAt (l : Launch) (D : va_G) (cI cZ : ClassId) (p p1 : Nat) (le : Int) (te : Nat → Int) (z : Int) (hle : 0 ≤ le ∧ le ≤ 61) (hz : -2147483648 ≤ z ∧ z < 2147483648) : kRO l yX2_digitAt wsX2_digitAt rm_X2_digitAt D cI cZ [.ref p, .int (iI z)] (pgW cI cZ p p1 le te) (some (.int (iI ((pgL te le z) - 48)))) := by
  refine kx_ROi (cc := cX2_digitAt) (maxL := 2) (by decide) rfl (Nat.le_of_ble_eq_true rfl) ?_
  intro pr en s mi args below meth co Q hx hb hml hown hts hK hP hret ls hl
  have hown : s.vm.findClass RX2 = some mi.cls := hown
  have hl : lv_has ls 2 [(0, .ref p), (1, .int (iI z))] := hl
  refine lv_aload_n hx hb dX2_digitAt_0 rfl (lv_at hl 0 rfl) ?_
  refine lv_iload_n hx hb dX2_digitAt_1 rfl (lv_at hl 1 rfl) ?_
  refine kx_cV (As := [.int (iI z)]) (rest := []) (st1 := [.int (iI (pgL te le z))]) (q0 := 0) (ci := 2) ⟨hx, hb, hml, hown, hts⟩ (c_X2_letterAt l D cI cZ p p1 le te z (by first | assumption | omega) (by first | assumption | omega)) (cwV 1 hts gX2_digitAt_X2_letterAt rfl rfl rfl (by decide +kernel) ⟨Nat.le_of_ble_eq_true rfl, Nat.le_of_ble_eq_true rfl⟩) hK hP rfl rfl rfl hl.1 rfl (Nat.le_of_ble_eq_true rfl) dX2_digitAt_2 ⟨Nat.zero_le _, Nat.zero_le _⟩ rfl ?_
  refine kx_bipush (z := 48) hx hb dX2_digitAt_5 (by decide) ?_
  refine kx_isub hx hb dX2_digitAt_7 ?_
  exact hret _ _ dX2_digitAt_8
def rm_X2_placeOfLink : Room := ({ frames := 0, cells := 0, slots := 0, locals := 0 } : Room)
set_option maxHeartbeats 4000000 in
set_option maxRecDepth 100000 in
theorem c_X2_placeOfLink (l : Launch) (D : va_G) (cI cZ : ClassId)  (z : Int)  : kRO l yX2_placeOfLink wsX2_placeOfLink rm_X2_placeOfLink D cI cZ [.int (iI z)] ([]) (some (.int (iI (2 + (4 * z))))) := by
  refine kx_ROi (cc := cX2_placeOfLink) (maxL := 1) (by decide) rfl (Nat.le_of_ble_eq_true rfl) ?_
  intro pr en s mi args below meth co Q hx hb hml hown hts hK hP hret ls hl
  have hown : s.vm.findClass RX2 = some mi.cls := hown
  have hl : lv_has ls 1 [(0, .int (iI z))] := hl
  refine kx_const (z := 2) hx hb dX2_placeOfLink_0 rfl ?_
  refine kx_const (z := 4) hx hb dX2_placeOfLink_1 rfl ?_
  refine lv_iload_n hx hb dX2_placeOfLink_2 rfl (lv_at hl 0 rfl) ?_
  refine kx_imul hx hb dX2_placeOfLink_3 ?_
  refine kx_iadd hx hb dX2_placeOfLink_4 ?_
  exact hret _ _ dX2_placeOfLink_5
def rm_X2_howManyLinks : Room := ({ frames := 0, cells := 0, slots := 0, locals := 0 } : Room)
set_option maxHeartbeats 4000000 in
set_option maxRecDepth 100000 in
theorem c_X2_howManyLinks (l : Launch) (D : va_G) (cI cZ : ClassId) (p p1 : Nat) (le : Int) (te : Nat → Int)  (hle : 1 ≤ le ∧ le ≤ 61) : kRO l yX2_howManyLinks wsX2_howManyLinks rm_X2_howManyLinks D cI cZ [.ref p] (pgW cI cZ p p1 le te) (some (.int (iI ((le - 1) / 4)))) := by
  refine kx_ROi (cc := cX2_howManyLinks) (maxL := 1) (by decide) rfl (Nat.le_of_ble_eq_true rfl) ?_
  intro pr en s mi args below meth co Q hx hb hml hown hts hK hP hret ls hl
  have hown : s.vm.findClass RX2 = some mi.cls := hown
  have iX2 : ∀ w ∈ wsX20, w ∈ wsX2_howManyLinks := by decide +kernel
  have hl : lv_has ls 1 [(0, .ref p)] := hl
  refine lv_aload_n hx hb dX2_howManyLinks_0 rfl (lv_at hl 0 rfl) ?_
  refine va_get (D := D) (ci := 2) (v := .int (iI le)) (C := RX2) (T := TX2) (N := 2) hx hb hts iX2 hown hK.1 hP 0 rfl rfl 1 (by decide) (hts (.fieldLink RX2 15 "CloseClocks$Page" "length" "I") (by decide +kernel)) (fun _ h9 => h9) rfl dX2_howManyLinks_1 ?_
  refine kx_const (z := 1) hx hb dX2_howManyLinks_4 rfl ?_
  refine kx_isub hx hb dX2_howManyLinks_5 ?_
  refine kx_const (z := 4) hx hb dX2_howManyLinks_6 rfl ?_
  refine kx_idiv hx hb (by omega) (by omega) dX2_howManyLinks_7 ?_
  exact hret _ _ dX2_howManyLinks_8
def rm_X2_isNode : Room := ({ frames := 2, cells := 0, slots := 0, locals := 42 } : Room)
set_option maxHeartbeats 4000000 in
set_option maxRecDepth 100000 in
theorem c_X2_isNode (l : Launch) (D : va_G) (cI cZ : ClassId) (p p1 : Nat) (le : Int) (te : Nat → Int) (z : Int) (hle : 0 ≤ le ∧ le ≤ 61) (hte : ∀ k : Nat, k < 61 → 0 ≤ te k ∧ te k ≤ 126) (hz : -2147483648 ≤ z ∧ z < 2147483648) : kRO l yX2_isNode wsX2_isNode rm_X2_isNode D cI cZ [.ref p, .int (iI z)] (pgW cI cZ p p1 le te) (some (.int (iI (if 0 ≤ z ∧ z < (pgL te le 0) - 48 then 1 else 0)))) := by
  refine kx_ROz (cc := cX2_isNode) (maxL := 2) (by decide) rfl (Nat.le_of_ble_eq_true rfl) ?_
  intro pr en s mi args below meth co Q hx hb hml hown hts hK hP hret ls hl
  have hown : s.vm.findClass RX2 = some mi.cls := hown
  have hl : lv_has ls 2 [(0, .ref p), (1, .int (iI z))] := hl
  have hpr := pgL_rng hte hle 0
  refine lv_iload_n hx hb dX2_isNode_0 rfl (lv_at hl 1 rfl) ?_
  refine kx_if_lt (tgt := 17) hx hb (by omega) dX2_isNode_1 (by decide) (fun h1 => ?_) (fun h1 => ?_)
  · skip
    refine kx_const (z := 0) hx hb dX2_isNode_17 rfl ?_
    exact hret 0 _ _ (Or.inr ⟨rfl, by first | omega | simp_all⟩) dX2_isNode_18
  · skip
    refine lv_iload_n hx hb dX2_isNode_4 rfl (lv_at hl 1 rfl) ?_
    refine lv_aload_n hx hb dX2_isNode_5 rfl (lv_at hl 0 rfl) ?_
    refine kx_const (z := 0) hx hb dX2_isNode_6 rfl ?_
    refine kx_cV (As := [.int (iI 0)]) (rest := [.int (iI z)]) (st1 := [.int (iI ((pgL te le 0) - 48)), .int (iI z)]) (q0 := 0) (ci := 2) ⟨hx, hb, hml, hown, hts⟩ (c_X2_digitAt l D cI cZ p p1 le te 0 (by first | assumption | omega) (by first | assumption | omega)) (cwV 1 hts gX2_isNode_X2_digitAt rfl rfl rfl (by decide +kernel) ⟨Nat.le_of_ble_eq_true rfl, Nat.le_of_ble_eq_true rfl⟩) hK hP rfl rfl rfl hl.1 rfl (Nat.le_of_ble_eq_true rfl) dX2_isNode_7 ⟨Nat.zero_le _, Nat.zero_le _⟩ rfl ?_
    refine kx_icmp_ge (tgt := 17) hx hb (by omega) (by omega) dX2_isNode_10 (by decide) (fun h10 => ?_) (fun h10 => ?_)
    · skip
      refine kx_const (z := 0) hx hb dX2_isNode_17 rfl ?_
      exact hret 0 _ _ (Or.inr ⟨rfl, by first | omega | simp_all⟩) dX2_isNode_18
    · skip
      refine kx_const (z := 1) hx hb dX2_isNode_13 rfl ?_
      refine lv_goto (tgt := 18) hx hb dX2_isNode_14 (by decide) ?_
      exact hret 1 _ _ (Or.inl ⟨rfl, by first | omega | simp_all | (refine ⟨?_, ?_⟩ <;> omega)⟩) dX2_isNode_18
def rm_X1_isRead : Room := ({ frames := 0, cells := 0, slots := 0, locals := 0 } : Room)
set_option maxHeartbeats 4000000 in
set_option maxRecDepth 100000 in
theorem c_X1_isRead (l : Launch) (D : va_G) (cI cZ : ClassId) (n n1 n2 n3 : Nat) (no li : Int) (dg nb wy : Nat → Int)  (hno : 0 ≤ no ∧ no ≤ 6) : kRO l yX1_isRead wsX1_isRead rm_X1_isRead D cI cZ [.ref n] (ntW cI cZ n n1 n2 n3 no li dg nb wy) (some (.int (iI (if 0 < no then 1 else 0)))) := by
  refine kx_ROz (cc := cX1_isRead) (maxL := 1) (by decide) rfl (Nat.le_of_ble_eq_true rfl) ?_
  intro pr en s mi args below meth co Q hx hb hml hown hts hK hP hret ls hl
  have hown : s.vm.findClass RX1 = some mi.cls := hown
  have iX1 : ∀ w ∈ wsX10, w ∈ wsX1_isRead := by decide +kernel
  have hl : lv_has ls 1 [(0, .ref n)] := hl
  refine lv_aload_n hx hb dX1_isRead_0 rfl (lv_at hl 0 rfl) ?_
  refine va_get (D := D) (ci := 1) (v := .int (iI no)) (C := RX1) (T := TX1) (N := 5) hx hb hts iX1 hown hK.1 hP 0 rfl rfl 3 (by decide) (hts (.fieldLink RX1 21 "CloseClocks$Net" "nodes" "I") (by decide +kernel)) (fun _ h9 => h9) rfl dX1_isRead_1 ?_
  refine kx_if_le (tgt := 11) hx hb (by omega) dX1_isRead_4 (by decide) (fun h4 => ?_) (fun h4 => ?_)
  · skip
    refine kx_const (z := 0) hx hb dX1_isRead_11 rfl ?_
    exact hret 0 _ _ (Or.inr ⟨rfl, by first | omega | simp_all⟩) dX1_isRead_12
  · skip
    refine kx_const (z := 1) hx hb dX1_isRead_7 rfl ?_
    refine lv_goto (tgt := 12) hx hb dX1_isRead_8 (by decide) ?_
    exact hret 1 _ _ (Or.inl ⟨rfl, by first | omega | simp_all | (refine ⟨?_, ?_⟩ <;> omega)⟩) dX1_isRead_12
def rm_X1_hasNode : Room := ({ frames := 0, cells := 0, slots := 0, locals := 0 } : Room)
set_option maxHeartbeats 4000000 in
set_option maxRecDepth 100000 in
theorem c_X1_hasNode (l : Launch) (D : va_G) (cI cZ : ClassId) (n n1 n2 n3 : Nat) (no li : Int) (dg nb wy : Nat → Int) (z : Int) (hno : 0 ≤ no ∧ no ≤ 6) (hz : -2147483648 ≤ z ∧ z < 2147483648) : kRO l yX1_hasNode wsX1_hasNode rm_X1_hasNode D cI cZ [.ref n, .int (iI z)] (ntW cI cZ n n1 n2 n3 no li dg nb wy) (some (.int (iI (if 0 ≤ z ∧ z < no then 1 else 0)))) := by
  refine kx_ROz (cc := cX1_hasNode) (maxL := 2) (by decide) rfl (Nat.le_of_ble_eq_true rfl) ?_
  intro pr en s mi args below meth co Q hx hb hml hown hts hK hP hret ls hl
  have hown : s.vm.findClass RX1 = some mi.cls := hown
  have iX1 : ∀ w ∈ wsX10, w ∈ wsX1_hasNode := by decide +kernel
  have hl : lv_has ls 2 [(0, .ref n), (1, .int (iI z))] := hl
  refine lv_iload_n hx hb dX1_hasNode_0 rfl (lv_at hl 1 rfl) ?_
  refine kx_if_lt (tgt := 16) hx hb (by omega) dX1_hasNode_1 (by decide) (fun h1 => ?_) (fun h1 => ?_)
  · skip
    refine kx_const (z := 0) hx hb dX1_hasNode_16 rfl ?_
    exact hret 0 _ _ (Or.inr ⟨rfl, by first | omega | simp_all⟩) dX1_hasNode_17
  · skip
    refine lv_iload_n hx hb dX1_hasNode_4 rfl (lv_at hl 1 rfl) ?_
    refine lv_aload_n hx hb dX1_hasNode_5 rfl (lv_at hl 0 rfl) ?_
    refine va_get (D := D) (ci := 1) (v := .int (iI no)) (C := RX1) (T := TX1) (N := 5) hx hb hts iX1 hown hK.1 hP 0 rfl rfl 3 (by decide) (hts (.fieldLink RX1 21 "CloseClocks$Net" "nodes" "I") (by decide +kernel)) (fun _ h9 => h9) rfl dX1_hasNode_6 ?_
    refine kx_icmp_ge (tgt := 16) hx hb (by omega) (by omega) dX1_hasNode_9 (by decide) (fun h9 => ?_) (fun h9 => ?_)
    · skip
      refine kx_const (z := 0) hx hb dX1_hasNode_16 rfl ?_
      exact hret 0 _ _ (Or.inr ⟨rfl, by first | omega | simp_all⟩) dX1_hasNode_17
    · skip
      refine kx_const (z := 1) hx hb dX1_hasNode_12 rfl ?_
      refine lv_goto (tgt := 17) hx hb dX1_hasNode_13 (by decide) ?_
      exact hret 1 _ _ (Or.inl ⟨rfl, by first | omega | simp_all | (refine ⟨?_, ?_⟩ <;> omega)⟩) dX1_hasNode_17
def rm_X1_hasLink : Room := ({ frames := 1, cells := 0, slots := 0, locals := 21 } : Room)
set_option maxHeartbeats 4000000 in
set_option maxRecDepth 100000 in
theorem c_X1_hasLink (l : Launch) (D : va_G) (cI cZ : ClassId) (n n1 n2 n3 : Nat) (no li : Int) (dg nb wy : Nat → Int) (z w : Int) (hno : 0 ≤ no ∧ no ≤ 6) (hwy : ∀ k : Nat, k < 36 → 0 ≤ wy k ∧ wy k ≤ 1000) (hz : -2147483648 ≤ z ∧ z < 2147483648) (hw : -2147483648 ≤ w ∧ w < 2147483648) : kRO l yX1_hasLink wsX1_hasLink rm_X1_hasLink D cI cZ [.ref n, .int (iI z), .int (iI w)] (ntW cI cZ n n1 n2 n3 no li dg nb wy) (some (.int (iI (if (0 ≤ z ∧ z < no) ∧ (0 ≤ w ∧ w < no) ∧ wy ((z * 6 + w).toNat) = 1 then 1 else 0)))) := by
  refine kx_ROz (cc := cX1_hasLink) (maxL := 3) (by decide) rfl (Nat.le_of_ble_eq_true rfl) ?_
  intro pr en s mi args below meth co Q hx hb hml hown hts hK hP hret ls hl
  have hown : s.vm.findClass RX1 = some mi.cls := hown
  have iX1 : ∀ w ∈ wsX10, w ∈ wsX1_hasLink := by decide +kernel
  have hl : lv_has ls 3 [(0, .ref n), (1, .int (iI z)), (2, .int (iI w))] := hl
  refine lv_aload_n hx hb dX1_hasLink_0 rfl (lv_at hl 0 rfl) ?_
  refine lv_iload_n hx hb dX1_hasLink_1 rfl (lv_at hl 1 rfl) ?_
  refine kx_cV (As := [.int (iI z)]) (rest := []) (st1 := [.int (iI (if (0 ≤ z ∧ z < no) then 1 else 0))]) (q0 := 0) (ci := 1) ⟨hx, hb, hml, hown, hts⟩ (c_X1_hasNode l D cI cZ n n1 n2 n3 no li dg nb wy z (by first | assumption | omega) (by first | assumption | omega)) (cwV 1 hts gX1_hasLink_X1_hasNode rfl rfl rfl (by decide +kernel) ⟨Nat.le_of_ble_eq_true rfl, Nat.le_of_ble_eq_true rfl⟩) hK hP rfl rfl rfl hl.1 rfl (Nat.le_of_ble_eq_true rfl) dX1_hasLink_2 ⟨Nat.zero_le _, Nat.zero_le _⟩ rfl ?_
  refine kx_if_eqB (tgt := 34) hx hb dX1_hasLink_5 (by decide) (fun h5 => ?_) (fun h5 => ?_)
  · skip
    refine kx_const (z := 0) hx hb dX1_hasLink_34 rfl ?_
    exact hret 0 _ _ (Or.inr ⟨rfl, by first | omega | simp_all⟩) dX1_hasLink_35
  · skip
    refine lv_aload_n hx hb dX1_hasLink_8 rfl (lv_at hl 0 rfl) ?_
    refine lv_iload_n hx hb dX1_hasLink_9 rfl (lv_at hl 2 rfl) ?_
    refine kx_cV (As := [.int (iI w)]) (rest := []) (st1 := [.int (iI (if (0 ≤ w ∧ w < no) then 1 else 0))]) (q0 := 0) (ci := 1) ⟨hx, hb, hml, hown, hts⟩ (c_X1_hasNode l D cI cZ n n1 n2 n3 no li dg nb wy w (by first | assumption | omega) (by first | assumption | omega)) (cwV 1 hts gX1_hasLink_X1_hasNode rfl rfl rfl (by decide +kernel) ⟨Nat.le_of_ble_eq_true rfl, Nat.le_of_ble_eq_true rfl⟩) hK hP rfl rfl rfl hl.1 rfl (Nat.le_of_ble_eq_true rfl) dX1_hasLink_10 ⟨Nat.zero_le _, Nat.zero_le _⟩ rfl ?_
    refine kx_if_eqB (tgt := 34) hx hb dX1_hasLink_13 (by decide) (fun h13 => ?_) (fun h13 => ?_)
    · skip
      refine kx_const (z := 0) hx hb dX1_hasLink_34 rfl ?_
      exact hret 0 _ _ (Or.inr ⟨rfl, by first | omega | simp_all⟩) dX1_hasLink_35
    · skip
      refine lv_aload_n hx hb dX1_hasLink_16 rfl (lv_at hl 0 rfl) ?_
      refine va_get (D := D) (ci := 1) (v := .ref n3) (C := RX1) (T := TX1) (N := 5) hx hb hts iX1 hown hK.1 hP 0 rfl rfl 2 (by decide) (hts (.fieldLink RX1 18 "CloseClocks$Net" "ways" "[I") (by decide +kernel)) (fun _ h9 => h9) rfl dX1_hasLink_17 ?_
      refine lv_iload_n hx hb dX1_hasLink_20 rfl (lv_at hl 1 rfl) ?_
      refine lv_iload_n hx hb dX1_hasLink_21 rfl (lv_at hl 2 rfl) ?_
      refine kx_cSN (As := [.int (iI z), .int (iI w)]) (rest := [.ref n3]) (st1 := [.int (iI ((z * 6) + w)), .ref n3]) ⟨hx, hb, hml, hown, hts⟩ (c_X3_cell l D cI cZ z w ) ⟨va_cnB 2 hts gX1_hasLink_X3_cell_n32 rfl rfl rfl (hK.2.2 (RX1, 32, yX3_cell) (List.mem_of_getElem? (i := 2) rfl)) (hts (.initialized RX3) (by decide +kernel)) (by decide +kernel) ⟨Nat.le_of_ble_eq_true rfl, Nat.le_of_ble_eq_true rfl⟩, hts (.static yX3_cell) (by decide +kernel), trivial⟩ hK (hP.sub (ws' := []) [] rfl) rfl hl.1 rfl (Nat.le_of_ble_eq_true rfl) dX1_hasLink_22 ⟨Nat.zero_le _, Nat.zero_le _⟩ rfl ?_
      refine kx_iald (k := ((z * 6 + w).toNat)) hx hb hK hP 3 rfl (by omega) (by omega) (by decide) dX1_hasLink_25 ?_
      have rg_1 := hwy ((z * 6 + w).toNat) (by omega)
      refine kx_const (z := 1) hx hb dX1_hasLink_26 rfl ?_
      refine kx_icmp_ne (tgt := 34) hx hb (by omega) (by omega) dX1_hasLink_27 (by decide) (fun h27 => ?_) (fun h27 => ?_)
      · skip
        refine kx_const (z := 0) hx hb dX1_hasLink_34 rfl ?_
        exact hret 0 _ _ (Or.inr ⟨rfl, by first | omega | simp_all⟩) dX1_hasLink_35
      · skip
        refine kx_const (z := 1) hx hb dX1_hasLink_30 rfl ?_
        refine lv_goto (tgt := 35) hx hb dX1_hasLink_31 (by decide) ?_
        exact hret 1 _ _ (Or.inl ⟨rfl, by first | omega | simp_all | (refine ⟨?_, ?_⟩ <;> omega)⟩) dX1_hasLink_35
def rm_X1_hopsOf : Room := ({ frames := 1, cells := 0, slots := 0, locals := 21 } : Room)
set_option maxHeartbeats 4000000 in
set_option maxRecDepth 100000 in
theorem c_X1_hopsOf (l : Launch) (D : va_G) (cI cZ : ClassId) (n n1 n2 n3 : Nat) (no li : Int) (dg nb wy : Nat → Int) (i j : Nat) (hwy : ∀ k : Nat, k < 36 → 0 ≤ wy k ∧ wy k ≤ 1000) (hi : i < 6) (hj : j < 6) : kRO l yX1_hopsOf wsX1_hopsOf rm_X1_hopsOf D cI cZ [.ref n, .int (iI (i : Int)), .int (iI (j : Int))] (ntW cI cZ n n1 n2 n3 no li dg nb wy) (some (.int (iI (if wy (i * 6 + j) < 1000 then wy (i * 6 + j) else (-100000001))))) := by
  refine kx_ROi (cc := cX1_hopsOf) (maxL := 4) (by decide) rfl (Nat.le_of_ble_eq_true rfl) ?_
  intro pr en s mi args below meth co Q hx hb hml hown hts hK hP hret ls hl
  have hown : s.vm.findClass RX1 = some mi.cls := hown
  have iX1 : ∀ w ∈ wsX10, w ∈ wsX1_hopsOf := by decide +kernel
  have hl : lv_has ls 4 [(0, .ref n), (1, .int (iI (i : Int))), (2, .int (iI (j : Int)))] := hl
  refine lv_aload_n hx hb dX1_hopsOf_0 rfl (lv_at hl 0 rfl) ?_
  refine va_get (D := D) (ci := 1) (v := .ref n3) (C := RX1) (T := TX1) (N := 5) hx hb hts iX1 hown hK.1 hP 0 rfl rfl 2 (by decide) (hts (.fieldLink RX1 18 "CloseClocks$Net" "ways" "[I") (by decide +kernel)) (fun _ h9 => h9) rfl dX1_hopsOf_1 ?_
  refine lv_iload_n hx hb dX1_hopsOf_4 rfl (lv_at hl 1 rfl) ?_
  refine lv_iload_n hx hb dX1_hopsOf_5 rfl (lv_at hl 2 rfl) ?_
  refine kx_cSN (As := [.int (iI (i : Int)), .int (iI (j : Int))]) (rest := [.ref n3]) (st1 := [.int (iI (((i : Int) * 6) + (j : Int))), .ref n3]) ⟨hx, hb, hml, hown, hts⟩ (c_X3_cell l D cI cZ (i : Int) (j : Int) ) ⟨va_cnB 2 hts gX1_hopsOf_X3_cell_n32 rfl rfl rfl (hK.2.2 (RX1, 32, yX3_cell) (List.mem_of_getElem? (i := 2) rfl)) (hts (.initialized RX3) (by decide +kernel)) (by decide +kernel) ⟨Nat.le_of_ble_eq_true rfl, Nat.le_of_ble_eq_true rfl⟩, hts (.static yX3_cell) (by decide +kernel), trivial⟩ hK (hP.sub (ws' := []) [] rfl) rfl hl.1 rfl (Nat.le_of_ble_eq_true rfl) dX1_hopsOf_6 ⟨Nat.zero_le _, Nat.zero_le _⟩ rfl ?_
  refine kx_iald (k := ((i * 6) + j)) hx hb hK hP 3 rfl (by omega) (by omega) (by decide) dX1_hopsOf_9 ?_
  have rg_1 := hwy ((i * 6) + j) (by omega)
  refine lv_istore_n (lv' := [(3, .int (iI (wy ((i * 6) + j)))), (0, .ref n), (1, .int (iI (i : Int))), (2, .int (iI (j : Int)))]) hx hb dX1_hopsOf_10 rfl hl (by decide) rfl (fun ls hl => ?_)
  refine lv_iload_n hx hb dX1_hopsOf_11 rfl (lv_at hl 0 rfl) ?_
  refine kx_sipush (z := 1000) hx hb dX1_hopsOf_12 (by decide) ?_
  refine kx_icmp_ge (tgt := 22) hx hb (by omega) (by omega) dX1_hopsOf_15 (by decide) (fun h15 => ?_) (fun h15 => ?_)
  · skip
    refine kx_ldc (z := -100000001) hx hb hown (hts (.constant RX1 36 (-100000001)) (by decide +kernel)) dX1_hopsOf_22 (by decide) ?_
    refine kx_top (b := (if wy (i * 6 + j) < 1000 then wy (i * 6 + j) else (-100000001))) (by first | (rw [if_pos (by omega)]) | (rw [if_neg (by omega)])) ?_
    exact hret _ _ dX1_hopsOf_24
  · skip
    refine lv_iload_n hx hb dX1_hopsOf_18 rfl (lv_at hl 0 rfl) ?_
    refine lv_goto (tgt := 24) hx hb dX1_hopsOf_19 (by decide) ?_
    refine kx_top (b := (if wy (i * 6 + j) < 1000 then wy (i * 6 + j) else (-100000001))) (by first | (rw [if_pos (by omega)]) | (rw [if_neg (by omega)])) ?_
    exact hret _ _ dX1_hopsOf_24
def rm_X1_neighbourOf : Room := ({ frames := 1, cells := 0, slots := 0, locals := 21 } : Room)
set_option maxHeartbeats 4000000 in
set_option maxRecDepth 100000 in
theorem c_X1_neighbourOf (l : Launch) (D : va_G) (cI cZ : ClassId) (n n1 n2 n3 : Nat) (no li : Int) (dg nb wy : Nat → Int) (i j : Nat) (hi : i < 6) (hj : j < 6) : kRO l yX1_neighbourOf wsX1_neighbourOf rm_X1_neighbourOf D cI cZ [.ref n, .int (iI (i : Int)), .int (iI (j : Int))] (ntW cI cZ n n1 n2 n3 no li dg nb wy) (some (.int (iI (nb ((i * 6) + j))))) := by
  refine kx_ROi (cc := cX1_neighbourOf) (maxL := 3) (by decide) rfl (Nat.le_of_ble_eq_true rfl) ?_
  intro pr en s mi args below meth co Q hx hb hml hown hts hK hP hret ls hl
  have hown : s.vm.findClass RX1 = some mi.cls := hown
  have iX1 : ∀ w ∈ wsX10, w ∈ wsX1_neighbourOf := by decide +kernel
  have hl : lv_has ls 3 [(0, .ref n), (1, .int (iI (i : Int))), (2, .int (iI (j : Int)))] := hl
  refine lv_aload_n hx hb dX1_neighbourOf_0 rfl (lv_at hl 0 rfl) ?_
  refine va_get (D := D) (ci := 1) (v := .ref n2) (C := RX1) (T := TX1) (N := 5) hx hb hts iX1 hown hK.1 hP 0 rfl rfl 1 (by decide) (hts (.fieldLink RX1 15 "CloseClocks$Net" "neighbours" "[I") (by decide +kernel)) (fun _ h9 => h9) rfl dX1_neighbourOf_1 ?_
  refine lv_iload_n hx hb dX1_neighbourOf_4 rfl (lv_at hl 1 rfl) ?_
  refine lv_iload_n hx hb dX1_neighbourOf_5 rfl (lv_at hl 2 rfl) ?_
  refine kx_cSN (As := [.int (iI (i : Int)), .int (iI (j : Int))]) (rest := [.ref n2]) (st1 := [.int (iI (((i : Int) * 6) + (j : Int))), .ref n2]) ⟨hx, hb, hml, hown, hts⟩ (c_X3_cell l D cI cZ (i : Int) (j : Int) ) ⟨va_cnB 2 hts gX1_neighbourOf_X3_cell_n32 rfl rfl rfl (hK.2.2 (RX1, 32, yX3_cell) (List.mem_of_getElem? (i := 2) rfl)) (hts (.initialized RX3) (by decide +kernel)) (by decide +kernel) ⟨Nat.le_of_ble_eq_true rfl, Nat.le_of_ble_eq_true rfl⟩, hts (.static yX3_cell) (by decide +kernel), trivial⟩ hK (hP.sub (ws' := []) [] rfl) rfl hl.1 rfl (Nat.le_of_ble_eq_true rfl) dX1_neighbourOf_6 ⟨Nat.zero_le _, Nat.zero_le _⟩ rfl ?_
  refine kx_iald (k := ((i * 6) + j)) hx hb hK hP 2 rfl (by omega) (by omega) (by decide) dX1_neighbourOf_9 ?_
  exact hret _ _ dX1_neighbourOf_10
end
section
-- the reference's own words: neighbours, guesses, how far off, triggers
def mB (dl : Nat → Int) (nd z w : Int) : Bool := decide ((0 ≤ z ∧ z ≤ nd - 1) ∧ (0 ≤ w ∧ w ≤ nd - 1) ∧ z ≠ w ∧ dl (6 * z + w).toNat ≠ -100000001)
theorem mB_iff {dl : Nat → Int} {nd z w : Int} : mB dl nd z w = true ↔ ((0 ≤ z ∧ z ≤ nd - 1) ∧ (0 ≤ w ∧ w ≤ nd - 1) ∧ z ≠ w ∧ dl (6 * z + w).toNat ≠ -100000001) := decide_eq_true_iff
theorem mB_nat {dl : Nat → Int} {nd : Int} {i j : Nat} : mB dl nd i j = true ↔ ((i : Int) < nd ∧ (j : Int) < nd ∧ i ≠ j ∧ dl (6 * i + j) ≠ -100000001) := by
  rw [mB_iff, show (6 * (i : Int) + (j : Int)).toNat = 6 * i + j by omega]
  constructor
  · rintro ⟨h1, h2, h3, h4⟩
    exact ⟨by omega, by omega, by omega, h4⟩
  · rintro ⟨h1, h2, h3, h4⟩
    exact ⟨by omega, by omega, by omega, h4⟩
def mG (ck dl er : Nat → Int) (i j : Nat) : Int := ck (4 * j + (dl (6 * i + j)).toNat) + 100 * dl (6 * i + j) + er (6 * i + j)
def mD (ck dl er : Nat → Int) (a : Int) (v w : Nat) : Int := if a = 0 then -(mG ck dl er v w - ck (4 * v)) else mG ck dl er v w - ck (4 * v)
def mOf (ck dl er : Nat → Int) (nd a : Int) (v : Nat) : Nat → Int
  | 0 => -100000001
  | w + 1 => if mB dl nd v w = true then (if mOf ck dl er nd a v w = -100000001 ∨ mOf ck dl er nd a v w < mD ck dl er a v w then mD ck dl er a v w else mOf ck dl er nd a v w) else mOf ck dl er nd a v w
section MOF
variable {ck dl er : Nat → Int} {nd a : Int} {v w : Nat}
theorem mOf_no (h : ¬ mB dl nd v w = true) : mOf ck dl er nd a v (w + 1) = mOf ck dl er nd a v w := by rw [mOf, if_neg h]
theorem mOf_up (h : mB dl nd v w = true) (h2 : mOf ck dl er nd a v w = -100000001 ∨ mOf ck dl er nd a v w < mD ck dl er a v w) : mOf ck dl er nd a v (w + 1) = mD ck dl er a v w := by rw [mOf, if_pos h, if_pos h2]
theorem mOf_st (h : mB dl nd v w = true) (h2 : mOf ck dl er nd a v w ≠ -100000001) (h3 : mD ck dl er a v w ≤ mOf ck dl er nd a v w) : mOf ck dl er nd a v (w + 1) = mOf ck dl er nd a v w := by
  rw [mOf, if_pos h, if_neg (by omega)]
theorem mG_rng (hck : ∀ k : Nat, k < 24 → 0 ≤ ck k ∧ ck k ≤ 50000000) (her : ∀ k : Nat, k < 36 → -9 ≤ er k ∧ er k ≤ 9) (hv : v < 6) (hw : w < 6) (hd : 0 ≤ dl (6 * v + w) ∧ dl (6 * v + w) ≤ 3) : -9 ≤ mG ck dl er v w ∧ mG ck dl er v w ≤ 50000309 := by
  have h1 := hck (4 * w + (dl (6 * v + w)).toNat) (by omega)
  have h2 := her (6 * v + w) (by omega)
  unfold mG
  omega
theorem mD_rng (hck : ∀ k : Nat, k < 24 → 0 ≤ ck k ∧ ck k ≤ 50000000) (her : ∀ k : Nat, k < 36 → -9 ≤ er k ∧ er k ≤ 9) (hv : v < 6) (hw : w < 6) (hd : 0 ≤ dl (6 * v + w) ∧ dl (6 * v + w) ≤ 3) : -60000000 ≤ mD ck dl er a v w ∧ mD ck dl er a v w ≤ 60000000 := by
  have h1 := mG_rng (ck := ck) (dl := dl) (er := er) hck her hv hw hd
  have h2 := hck (4 * v) (by omega)
  unfold mD
  split <;> omega
theorem mB_dl (hdl : ∀ k : Nat, k < 36 → dl k = -100000001 ∨ (0 ≤ dl k ∧ dl k ≤ 3)) (hnd : 0 ≤ nd ∧ nd ≤ 6) (h : mB dl nd v w = true) : v < 6 ∧ w < 6 ∧ 0 ≤ dl (6 * v + w) ∧ dl (6 * v + w) ≤ 3 := by
  obtain ⟨h1, h2, h3, h4⟩ := mB_nat.mp h
  rcases hdl (6 * v + w) (by omega) with h5 | h5
  · exact absurd h5 h4
  · exact ⟨by omega, by omega, h5⟩
theorem mOf_rng (hck : ∀ k : Nat, k < 24 → 0 ≤ ck k ∧ ck k ≤ 50000000) (her : ∀ k : Nat, k < 36 → -9 ≤ er k ∧ er k ≤ 9) (hdl : ∀ k : Nat, k < 36 → dl k = -100000001 ∨ (0 ≤ dl k ∧ dl k ≤ 3)) (hnd : 0 ≤ nd ∧ nd ≤ 6) : ∀ w : Nat, mOf ck dl er nd a v w = -100000001 ∨ (-60000000 ≤ mOf ck dl er nd a v w ∧ mOf ck dl er nd a v w ≤ 60000000)
  | 0 => Or.inl rfl
  | w + 1 => by
    have ih := mOf_rng hck her hdl hnd w
    by_cases h : mB dl nd v w = true
    · obtain ⟨g1, g2, g3⟩ := mB_dl hdl hnd h
      have h2 := mD_rng (a := a) hck her g1 g2 g3
      by_cases h3 : mOf ck dl er nd a v w = -100000001 ∨ mOf ck dl er nd a v w < mD ck dl er a v w
      · rw [mOf_up h h3]
        exact Or.inr h2
      · rw [mOf_st h (by omega) (by omega)]
        exact ih
    · rw [mOf_no h]
      exact ih
end MOF
def mN (st a f : Int) : Int := if a ≤ f * st then f else (a + st - 1) / st
def mFi (st a f : Int) : Int := if mN st a f % 2 = f % 2 then mN st a f else mN st a f + 1
theorem mN_bd {st a f : Int} (hs : 1 ≤ st ∧ st ≤ 500) (hf : f = 1 ∨ f = 2) (ha : a ≤ 1000000000) : 1 ≤ mN st a f ∧ mN st a f ≤ 1000000000 ∧ mN st a f * st ≤ max (f * st) (a + st) ∧ (a ≤ f * st ∨ a ≤ mN st a f * st) ∧ f ≤ mN st a f := by
  have hfs : f * st = st ∨ f * st = 2 * st := by rcases hf with h | h <;> rw [h] <;> omega
  unfold mN
  split
  · refine ⟨by omega, by omega, by omega, by omega, by omega⟩
  · have h1 := Int.emod_nonneg (a + st - 1) (b := st) (by omega)
    have h2 := Int.emod_lt_of_pos (a + st - 1) (b := st) (by omega)
    have h3 := Int.emod_def (a + st - 1) st
    rw [Int.mul_comm] at h3
    have h6 : f ≤ (a + st - 1) / st := by
      refine (Int.le_ediv_iff_mul_le (by omega)).mpr ?_
      omega
    have h7 : (a + st - 1) / st ≤ a + st - 1 := Int.ediv_le_self _ (by omega)
    refine ⟨by omega, ?_, by omega, by omega, h6⟩
    rcases Int.lt_or_le st 2 with h | h
    · have : st = 1 := by omega
      subst this
      omega
    · have h8 : (a + st - 1) / st ≤ (a + st - 1) / 2 := by
        refine (Int.le_ediv_iff_mul_le (by omega)).mpr ?_
        have h9 : (a + st - 1) / st * 2 ≤ (a + st - 1) / st * st := Int.mul_le_mul_of_nonneg_left h (by omega)
        omega
      omega
theorem mFi_bd {st a f : Int} (hs : 1 ≤ st ∧ st ≤ 500) (hf : f = 1 ∨ f = 2) (ha : a ≤ 1000000000) : 1 ≤ mFi st a f ∧ mFi st a f ≤ 1000000001 ∧ mFi st a f * st ≤ max (f * st) (a + 2 * st) ∧ 0 ≤ mFi st a f * st := by
  obtain ⟨h1, h2, h3, h4, h5⟩ := mN_bd hs hf ha
  have hfs : f * st = st ∨ f * st = 2 * st := by rcases hf with h | h <;> rw [h] <;> omega
  have hnn : 0 ≤ mN st a f * st := Int.mul_nonneg (by omega) (by omega)
  unfold mFi
  split
  · refine ⟨h1, by omega, by omega, hnn⟩
  · rename_i hne
    rw [Int.add_mul, Int.one_mul]
    refine ⟨by omega, by omega, ?_, by omega⟩
    by_cases h : a ≤ f * st
    · exfalso
      have : mN st a f = f := by unfold mN; rw [if_pos h]
      rw [this] at hne
      exact hne rfl
    · omega
def mTr (st a b f : Int) : Int := if a = -100000001 then -100000001 else if mFi st a f * st ≤ b then mFi st a f else -100000001
def mUp (st ah be : Int) : Int := if mTr st be ah 1 = -100000001 then -100000001 else (mTr st be ah 1 - 1) / 2
def mDn (st ah be : Int) : Int := if mTr st ah be 2 = -100000001 then -100000001 else mTr st ah be 2 / 2
theorem mTr_bd {st a b f : Int} (hs : 1 ≤ st ∧ st ≤ 500) (hf : f = 1 ∨ f = 2) (ha : a ≤ 1000000000) : mTr st a b f = -100000001 ∨ (1 ≤ mTr st a b f ∧ mTr st a b f ≤ 1000000001) := by
  have := mFi_bd hs hf ha
  unfold mTr
  split
  · exact Or.inl rfl
  · split
    · right; omega
    · exact Or.inl rfl
theorem mUp_bd {st ah be : Int} (hs : 1 ≤ st ∧ st ≤ 500) (hb : be ≤ 1000000000) : -100000001 ≤ mUp st ah be ∧ mUp st ah be ≤ 1000000001 := by
  have := mTr_bd (b := ah) hs (Or.inl rfl : (1 : Int) = 1 ∨ (1 : Int) = 2) hb
  unfold mUp
  split <;> omega
theorem mDn_bd {st ah be : Int} (hs : 1 ≤ st ∧ st ≤ 500) (hb : ah ≤ 1000000000) : -100000001 ≤ mDn st ah be ∧ mDn st ah be ≤ 1000000001 := by
  have := mTr_bd (b := be) hs (Or.inr rfl : (2 : Int) = 1 ∨ (2 : Int) = 2) hb
  unfold mDn
  split <;> omega
end
section
def rm_X4_within : Room := ({ frames := 0, cells := 0, slots := 0, locals := 0 } : Room)
set_option maxHeartbeats 4000000 in
set_option maxRecDepth 100000 in
theorem c_X4_within (l : Launch) (D : va_G) (cI cZ : ClassId)  (a b d : Int) (ha : -2147483648 ≤ a ∧ a < 2147483648) (hb2 : -2147483648 ≤ b ∧ b < 2147483648) (hd : -2147483648 ≤ d ∧ d < 2147483648) : kRO l yX4_within wsX4_within rm_X4_within D cI cZ [.int (iI a), .int (iI b), .int (iI d)] ([]) (some (.int (iI (if b ≤ a ∧ a ≤ d then 1 else 0)))) := by
  refine kx_ROz (cc := cX4_within) (maxL := 3) (by decide) rfl (Nat.le_of_ble_eq_true rfl) ?_
  intro pr en s mi args below meth co Q hx hb hml hown hts hK hP hret ls hl
  have hown : s.vm.findClass RX4 = some mi.cls := hown
  have hl : lv_has ls 3 [(0, .int (iI a)), (1, .int (iI b)), (2, .int (iI d))] := hl
  refine lv_iload_n hx hb dX4_within_0 rfl (lv_at hl 0 rfl) ?_
  refine lv_iload_n hx hb dX4_within_1 rfl (lv_at hl 1 rfl) ?_
  refine kx_icmp_lt (tgt := 14) hx hb (by omega) (by omega) dX4_within_2 (by decide) (fun h2 => ?_) (fun h2 => ?_)
  · skip
    refine kx_const (z := 0) hx hb dX4_within_14 rfl ?_
    exact hret 0 _ _ (Or.inr ⟨rfl, by first | omega | simp_all⟩) dX4_within_15
  · skip
    refine lv_iload_n hx hb dX4_within_5 rfl (lv_at hl 0 rfl) ?_
    refine lv_iload_n hx hb dX4_within_6 rfl (lv_at hl 2 rfl) ?_
    refine kx_icmp_gt (tgt := 14) hx hb (by omega) (by omega) dX4_within_7 (by decide) (fun h7 => ?_) (fun h7 => ?_)
    · skip
      refine kx_const (z := 0) hx hb dX4_within_14 rfl ?_
      exact hret 0 _ _ (Or.inr ⟨rfl, by first | omega | simp_all⟩) dX4_within_15
    · skip
      refine kx_const (z := 1) hx hb dX4_within_10 rfl ?_
      refine lv_goto (tgt := 15) hx hb dX4_within_11 (by decide) ?_
      exact hret 1 _ _ (Or.inl ⟨rfl, by first | omega | simp_all | (refine ⟨?_, ?_⟩ <;> omega)⟩) dX4_within_15
def rm_X4_isNode : Room := ({ frames := 1, cells := 0, slots := 0, locals := 22 } : Room)
set_option maxHeartbeats 4000000 in
set_option maxRecDepth 100000 in
theorem c_X4_isNode (l : Launch) (D : va_G) (cI cZ : ClassId) (h m1 m4 m5 m6 m7 m8 m9 m21 m22 m23 m24 m25 m26 m30 m31 m32 m33 m34 m35 : Nat) (pl nd lk st bo ti te nr ml nn nl du nO nT wm wb ik kt kl : Int) (hh : Int64) (pg dl er ra ck fa ft nw tu tc tr tf tt kc kr ke kd kf kg : Nat → Int) (z : Int) (hnd : 0 ≤ nd ∧ nd ≤ 6) (hz : -2147483648 ≤ z ∧ z < 2147483648) : kRO l yX4_isNode wsX4_isNode rm_X4_isNode D cI cZ [.ref h, .int (iI z)] (mdW cI cZ h m1 m4 m5 m6 m7 m8 m9 m21 m22 m23 m24 m25 m26 m30 m31 m32 m33 m34 m35 pl nd lk st bo ti te nr ml nn nl du nO nT wm wb ik kt kl hh pg dl er ra ck fa ft nw tu tc tr tf tt kc kr ke kd kf kg) (some (.int (iI (if 0 ≤ z ∧ z ≤ (nd - 1) then 1 else 0)))) := by
  refine kx_ROz (cc := cX4_isNode) (maxL := 2) (by decide) rfl (Nat.le_of_ble_eq_true rfl) ?_
  intro pr en s mi args below meth co Q hx hb hml hown hts hK hP hret ls hl
  have hown : s.vm.findClass RX4 = some mi.cls := hown
  have iX4 : ∀ w ∈ wsX40, w ∈ wsX4_isNode := by decide +kernel
  have hl : lv_has ls 2 [(0, .ref h), (1, .int (iI z))] := hl
  refine lv_iload_n hx hb dX4_isNode_0 rfl (lv_at hl 1 rfl) ?_
  refine kx_const (z := 0) hx hb dX4_isNode_1 rfl ?_
  refine lv_aload_n hx hb dX4_isNode_2 rfl (lv_at hl 0 rfl) ?_
  refine va_get (D := D) (ci := 4) (v := .int (iI nd)) (C := RX4) (T := TX4) (N := 39) hx hb hts iX4 hown hK.1 hP 0 rfl rfl 2 (by decide) (hts (.fieldLink RX4 112 "CloseClocksModel" "nodes" "I") (by decide +kernel)) (fun _ h9 => h9) rfl dX4_isNode_3 ?_
  refine kx_const (z := 1) hx hb dX4_isNode_6 rfl ?_
  refine kx_isub hx hb dX4_isNode_7 ?_
  refine kx_cS (As := [.int (iI z), .int (iI 0), .int (iI (nd - 1))]) (rest := []) (st1 := [.int (iI (if (0 ≤ z ∧ z ≤ (nd - 1)) then 1 else 0))]) ⟨hx, hb, hml, hown, hts⟩ (c_X4_within l D cI cZ z 0 (nd - 1) (by first | assumption | omega) (by first | assumption | omega) (by first | assumption | omega)) (va_cwS 3 hts gX4_isNode_X4_within rfl rfl rfl (by decide +kernel) ⟨Nat.le_of_ble_eq_true rfl, Nat.le_of_ble_eq_true rfl⟩) hK (hP.sub (ws' := []) [] rfl) rfl hl.1 rfl (Nat.le_of_ble_eq_true rfl) dX4_isNode_8 ⟨Nat.zero_le _, Nat.zero_le _⟩ rfl ?_
  by_cases hz9 : 0 ≤ z ∧ z ≤ (nd - 1)
  · rw [if_pos hz9]; exact hret 1 _ _ (Or.inl ⟨rfl, hz9⟩) dX4_isNode_11
  · rw [if_neg hz9]; exact hret 0 _ _ (Or.inr ⟨rfl, hz9⟩) dX4_isNode_11
def rm_X4_areBeside : Room := ({ frames := 2, cells := 0, slots := 0, locals := 43 } : Room)
set_option maxHeartbeats 4000000 in
set_option maxRecDepth 100000 in
theorem c_X4_areBeside (l : Launch) (D : va_G) (cI cZ : ClassId) (h m1 m4 m5 m6 m7 m8 m9 m21 m22 m23 m24 m25 m26 m30 m31 m32 m33 m34 m35 : Nat) (pl nd lk st bo ti te nr ml nn nl du nO nT wm wb ik kt kl : Int) (hh : Int64) (pg dl er ra ck fa ft nw tu tc tr tf tt kc kr ke kd kf kg : Nat → Int) (z w : Int) (hnd : 0 ≤ nd ∧ nd ≤ 6) (hdl : ∀ k : Nat, k < 36 → dl k = -100000001 ∨ (0 ≤ dl k ∧ dl k ≤ 3)) (hz : -2147483648 ≤ z ∧ z < 2147483648) (hw : -2147483648 ≤ w ∧ w < 2147483648) : kRO l yX4_areBeside wsX4_areBeside rm_X4_areBeside D cI cZ [.ref h, .int (iI z), .int (iI w)] (mdW cI cZ h m1 m4 m5 m6 m7 m8 m9 m21 m22 m23 m24 m25 m26 m30 m31 m32 m33 m34 m35 pl nd lk st bo ti te nr ml nn nl du nO nT wm wb ik kt kl hh pg dl er ra ck fa ft nw tu tc tr tf tt kc kr ke kd kf kg) (some (.int (iI (if mB dl nd z w = true then 1 else 0)))) := by
  refine kx_ROz (cc := cX4_areBeside) (maxL := 3) (by decide) rfl (Nat.le_of_ble_eq_true rfl) ?_
  intro pr en s mi args below meth co Q hx hb hml hown hts hK hP hret ls hl
  have hown : s.vm.findClass RX4 = some mi.cls := hown
  have iX4 : ∀ w ∈ wsX40, w ∈ wsX4_areBeside := by decide +kernel
  have hl : lv_has ls 3 [(0, .ref h), (1, .int (iI z)), (2, .int (iI w))] := hl
  refine lv_aload_n hx hb dX4_areBeside_0 rfl (lv_at hl 0 rfl) ?_
  refine lv_iload_n hx hb dX4_areBeside_1 rfl (lv_at hl 1 rfl) ?_
  refine kx_cV (As := [.int (iI z)]) (rest := []) (st1 := [.int (iI (if (0 ≤ z ∧ z ≤ (nd - 1)) then 1 else 0))]) (q0 := 0) (ci := 4) ⟨hx, hb, hml, hown, hts⟩ (c_X4_isNode l D cI cZ h m1 m4 m5 m6 m7 m8 m9 m21 m22 m23 m24 m25 m26 m30 m31 m32 m33 m34 m35 pl nd lk st bo ti te nr ml nn nl du nO nT wm wb ik kt kl hh pg dl er ra ck fa ft nw tu tc tr tf tt kc kr ke kd kf kg z (by first | assumption | omega) (by first | assumption | omega)) (cwV 1 hts gX4_areBeside_X4_isNode rfl rfl rfl (by decide +kernel) ⟨Nat.le_of_ble_eq_true rfl, Nat.le_of_ble_eq_true rfl⟩) hK hP rfl rfl rfl hl.1 rfl (Nat.le_of_ble_eq_true rfl) dX4_areBeside_2 ⟨Nat.zero_le _, Nat.zero_le _⟩ rfl ?_
  refine kx_if_eqB (tgt := 41) hx hb dX4_areBeside_5 (by decide) (fun h5 => ?_) (fun h5 => ?_)
  · skip
    refine kx_const (z := 0) hx hb dX4_areBeside_41 rfl ?_
    exact hret 0 _ _ (Or.inr ⟨rfl, by rw [mB_iff]; rintro ⟨q1, q2, q3, q4⟩; first | exact h5 q1 | exact h13 q2 | exact q3 h18 | exact q4 h34⟩) dX4_areBeside_42
  · skip
    refine lv_aload_n hx hb dX4_areBeside_8 rfl (lv_at hl 0 rfl) ?_
    refine lv_iload_n hx hb dX4_areBeside_9 rfl (lv_at hl 2 rfl) ?_
    refine kx_cV (As := [.int (iI w)]) (rest := []) (st1 := [.int (iI (if (0 ≤ w ∧ w ≤ (nd - 1)) then 1 else 0))]) (q0 := 0) (ci := 4) ⟨hx, hb, hml, hown, hts⟩ (c_X4_isNode l D cI cZ h m1 m4 m5 m6 m7 m8 m9 m21 m22 m23 m24 m25 m26 m30 m31 m32 m33 m34 m35 pl nd lk st bo ti te nr ml nn nl du nO nT wm wb ik kt kl hh pg dl er ra ck fa ft nw tu tc tr tf tt kc kr ke kd kf kg w (by first | assumption | omega) (by first | assumption | omega)) (cwV 1 hts gX4_areBeside_X4_isNode rfl rfl rfl (by decide +kernel) ⟨Nat.le_of_ble_eq_true rfl, Nat.le_of_ble_eq_true rfl⟩) hK hP rfl rfl rfl hl.1 rfl (Nat.le_of_ble_eq_true rfl) dX4_areBeside_10 ⟨Nat.zero_le _, Nat.zero_le _⟩ rfl ?_
    refine kx_if_eqB (tgt := 41) hx hb dX4_areBeside_13 (by decide) (fun h13 => ?_) (fun h13 => ?_)
    · skip
      refine kx_const (z := 0) hx hb dX4_areBeside_41 rfl ?_
      exact hret 0 _ _ (Or.inr ⟨rfl, by rw [mB_iff]; rintro ⟨q1, q2, q3, q4⟩; first | exact h5 q1 | exact h13 q2 | exact q3 h18 | exact q4 h34⟩) dX4_areBeside_42
    · skip
      refine lv_iload_n hx hb dX4_areBeside_16 rfl (lv_at hl 1 rfl) ?_
      refine lv_iload_n hx hb dX4_areBeside_17 rfl (lv_at hl 2 rfl) ?_
      refine kx_icmp_eq (tgt := 41) hx hb (by omega) (by omega) dX4_areBeside_18 (by decide) (fun h18 => ?_) (fun h18 => ?_)
      · skip
        refine kx_const (z := 0) hx hb dX4_areBeside_41 rfl ?_
        exact hret 0 _ _ (Or.inr ⟨rfl, by rw [mB_iff]; rintro ⟨q1, q2, q3, q4⟩; first | exact h5 q1 | exact h13 q2 | exact q3 h18 | exact q4 h34⟩) dX4_areBeside_42
      · skip
        refine lv_aload_n hx hb dX4_areBeside_21 rfl (lv_at hl 0 rfl) ?_
        refine va_get (D := D) (ci := 4) (v := .ref m4) (C := RX4) (T := TX4) (N := 39) hx hb hts iX4 hown hK.1 hP 0 rfl rfl 4 (by decide) (hts (.fieldLink RX4 13 "CloseClocksModel" "delayOf" "[I") (by decide +kernel)) (fun _ h9 => h9) rfl dX4_areBeside_22 ?_
        refine kx_bipush (z := 6) hx hb dX4_areBeside_25 (by decide) ?_
        refine lv_iload_n hx hb dX4_areBeside_27 rfl (lv_at hl 1 rfl) ?_
        refine kx_imul hx hb dX4_areBeside_28 ?_
        refine lv_iload_n hx hb dX4_areBeside_29 rfl (lv_at hl 2 rfl) ?_
        refine kx_iadd hx hb dX4_areBeside_30 ?_
        refine kx_iald (k := ((6 * z + w).toNat)) hx hb hK hP 2 rfl (by omega) (by omega) (by decide) dX4_areBeside_31 ?_
        have rg_1 := hdl ((6 * z + w).toNat) (by omega)
        refine kx_ldc (z := -100000001) hx hb hown (hts (.constant RX4 96 (-100000001)) (by decide +kernel)) dX4_areBeside_32 (by decide) ?_
        refine kx_icmp_eq (tgt := 41) hx hb (by omega) (by omega) dX4_areBeside_34 (by decide) (fun h34 => ?_) (fun h34 => ?_)
        · skip
          refine kx_const (z := 0) hx hb dX4_areBeside_41 rfl ?_
          exact hret 0 _ _ (Or.inr ⟨rfl, by rw [mB_iff]; rintro ⟨q1, q2, q3, q4⟩; first | exact h5 q1 | exact h13 q2 | exact q3 h18 | exact q4 h34⟩) dX4_areBeside_42
        · skip
          refine kx_const (z := 1) hx hb dX4_areBeside_37 rfl ?_
          refine lv_goto (tgt := 42) hx hb dX4_areBeside_38 (by decide) ?_
          exact hret 1 _ _ (Or.inl ⟨rfl, by exact mB_iff.mpr ⟨h5, h13, h18, h34⟩⟩) dX4_areBeside_42
def rm_X4_guess : Room := ({ frames := 0, cells := 0, slots := 0, locals := 0 } : Room)
set_option maxHeartbeats 4000000 in
set_option maxRecDepth 100000 in
theorem c_X4_guess (l : Launch) (D : va_G) (cI cZ : ClassId) (h m1 m4 m5 m6 m7 m8 m9 m21 m22 m23 m24 m25 m26 m30 m31 m32 m33 m34 m35 : Nat) (pl nd lk st bo ti te nr ml nn nl du nO nT wm wb ik kt kl : Int) (hh : Int64) (pg dl er ra ck fa ft nw tu tc tr tf tt kc kr ke kd kf kg : Nat → Int) (i j : Nat) (hi : i < 6) (hj : j < 6) (hd : 0 ≤ dl (6 * i + j) ∧ dl (6 * i + j) ≤ 3) : kRO l yX4_guess wsX4_guess rm_X4_guess D cI cZ [.ref h, .int (iI (i : Int)), .int (iI (j : Int))] (mdW cI cZ h m1 m4 m5 m6 m7 m8 m9 m21 m22 m23 m24 m25 m26 m30 m31 m32 m33 m34 m35 pl nd lk st bo ti te nr ml nn nl du nO nT wm wb ik kt kl hh pg dl er ra ck fa ft nw tu tc tr tf tt kc kr ke kd kf kg) (some (.int (iI (mG ck dl er i j)))) := by
  refine kx_ROi (cc := cX4_guess) (maxL := 4) (by decide) rfl (Nat.le_of_ble_eq_true rfl) ?_
  intro pr en s mi args below meth co Q hx hb hml hown hts hK hP hret ls hl
  have hown : s.vm.findClass RX4 = some mi.cls := hown
  have iX4 : ∀ w ∈ wsX40, w ∈ wsX4_guess := by decide +kernel
  have hl : lv_has ls 4 [(0, .ref h), (1, .int (iI (i : Int))), (2, .int (iI (j : Int)))] := hl
  refine lv_aload_n hx hb dX4_guess_0 rfl (lv_at hl 0 rfl) ?_
  refine va_get (D := D) (ci := 4) (v := .ref m4) (C := RX4) (T := TX4) (N := 39) hx hb hts iX4 hown hK.1 hP 0 rfl rfl 4 (by decide) (hts (.fieldLink RX4 13 "CloseClocksModel" "delayOf" "[I") (by decide +kernel)) (fun _ h9 => h9) rfl dX4_guess_1 ?_
  refine kx_bipush (z := 6) hx hb dX4_guess_4 (by decide) ?_
  refine lv_iload_n hx hb dX4_guess_6 rfl (lv_at hl 1 rfl) ?_
  refine kx_imul hx hb dX4_guess_7 ?_
  refine lv_iload_n hx hb dX4_guess_8 rfl (lv_at hl 2 rfl) ?_
  refine kx_iadd hx hb dX4_guess_9 ?_
  refine kx_iald (k := ((6 * i) + j)) hx hb hK hP 2 rfl (by omega) (by omega) (by decide) dX4_guess_10 ?_
  refine lv_istore_n (lv' := [(3, .int (iI (dl ((6 * i) + j)))), (0, .ref h), (1, .int (iI (i : Int))), (2, .int (iI (j : Int)))]) hx hb dX4_guess_11 rfl hl (by decide) rfl (fun ls hl => ?_)
  refine lv_aload_n hx hb dX4_guess_12 rfl (lv_at hl 1 rfl) ?_
  refine va_get (D := D) (ci := 4) (v := .ref m7) (C := RX4) (T := TX4) (N := 39) hx hb hts iX4 hown hK.1 hP 0 rfl rfl 7 (by decide) (hts (.fieldLink RX4 22 "CloseClocksModel" "clockAt" "[I") (by decide +kernel)) (fun _ h9 => h9) rfl dX4_guess_13 ?_
  refine kx_const (z := 4) hx hb dX4_guess_16 rfl ?_
  refine lv_iload_n hx hb dX4_guess_17 rfl (lv_at hl 3 rfl) ?_
  refine kx_imul hx hb dX4_guess_18 ?_
  refine lv_iload_n hx hb dX4_guess_19 rfl (lv_at hl 0 rfl) ?_
  refine kx_iadd hx hb dX4_guess_20 ?_
  refine kx_iald (k := (4 * j + (dl (6 * i + j)).toNat)) hx hb hK hP 5 rfl (by omega) (by omega) (by decide) dX4_guess_21 ?_
  refine kx_bipush (z := 100) hx hb dX4_guess_22 (by decide) ?_
  refine lv_iload_n hx hb dX4_guess_24 rfl (lv_at hl 0 rfl) ?_
  refine kx_imul hx hb dX4_guess_25 ?_
  refine kx_iadd hx hb dX4_guess_26 ?_
  refine lv_aload_n hx hb dX4_guess_27 rfl (lv_at hl 1 rfl) ?_
  refine va_get (D := D) (ci := 4) (v := .ref m5) (C := RX4) (T := TX4) (N := 39) hx hb hts iX4 hown hK.1 hP 0 rfl rfl 5 (by decide) (hts (.fieldLink RX4 16 "CloseClocksModel" "errorOf" "[I") (by decide +kernel)) (fun _ h9 => h9) rfl dX4_guess_28 ?_
  refine kx_bipush (z := 6) hx hb dX4_guess_31 (by decide) ?_
  refine lv_iload_n hx hb dX4_guess_33 rfl (lv_at hl 2 rfl) ?_
  refine kx_imul hx hb dX4_guess_34 ?_
  refine lv_iload_n hx hb dX4_guess_35 rfl (lv_at hl 3 rfl) ?_
  refine kx_iadd hx hb dX4_guess_36 ?_
  refine kx_iald (k := ((6 * i) + j)) hx hb hK hP 3 rfl (by omega) (by omega) (by decide) dX4_guess_37 ?_
  refine kx_iadd hx hb dX4_guess_38 ?_
  refine kx_top (b := (mG ck dl er i j)) (by unfold mG; rfl) ?_
  exact hret _ _ dX4_guess_39
def rm_X4_off : Room := ({ frames := 3, cells := 0, slots := 0, locals := 65 } : Room)
set_option maxHeartbeats 4000000 in
set_option maxRecDepth 100000 in
theorem c_X4_off (l : Launch) (D : va_G) (cI cZ : ClassId) (h m1 m4 m5 m6 m7 m8 m9 m21 m22 m23 m24 m25 m26 m30 m31 m32 m33 m34 m35 : Nat) (pl nd lk st bo ti te nr ml nn nl du nO nT wm wb ik kt kl : Int) (hh : Int64) (pg dl er ra ck fa ft nw tu tc tr tf tt kc kr ke kd kf kg : Nat → Int) (v : Nat) (a : Int) (hv : v < 6) (ha : a = 0 ∨ a = 1) (hnd : 0 ≤ nd ∧ nd ≤ 6) (hdl : ∀ k : Nat, k < 36 → dl k = -100000001 ∨ (0 ≤ dl k ∧ dl k ≤ 3)) (hck : ∀ k : Nat, k < 24 → 0 ≤ ck k ∧ ck k ≤ 50000000) (her : ∀ k : Nat, k < 36 → -9 ≤ er k ∧ er k ≤ 9) : kRO l yX4_off wsX4_off rm_X4_off D cI cZ [.ref h, .int (iI (v : Int)), .int (iI a)] (mdW cI cZ h m1 m4 m5 m6 m7 m8 m9 m21 m22 m23 m24 m25 m26 m30 m31 m32 m33 m34 m35 pl nd lk st bo ti te nr ml nn nl du nO nT wm wb ik kt kl hh pg dl er ra ck fa ft nw tu tc tr tf tt kc kr ke kd kf kg) (some (.int (iI (mOf ck dl er nd a v nd.toNat)))) := by
  refine kx_ROi (cc := cX4_off) (maxL := 6) (by decide) rfl (Nat.le_of_ble_eq_true rfl) ?_
  intro pr en s mi args below meth co Q hx hb hml hown hts hK hP hret ls hl
  have hown : s.vm.findClass RX4 = some mi.cls := hown
  have iX4 : ∀ w ∈ wsX40, w ∈ wsX4_off := by decide +kernel
  have hl : lv_has ls 6 [(0, .ref h), (1, .int (iI (v : Int))), (2, .int (iI a))] := hl
  refine kx_ldc (z := -100000001) hx hb hown (hts (.constant RX4 96 (-100000001)) (by decide +kernel)) dX4_off_0 (by decide) ?_
  refine lv_istore_n (lv' := [(3, .int (iI (-100000001))), (0, .ref h), (1, .int (iI (v : Int))), (2, .int (iI a))]) hx hb dX4_off_2 rfl hl (by decide) rfl (fun ls hl => ?_)
  refine kx_const (z := 0) hx hb dX4_off_3 rfl ?_
  refine lv_istore (lv' := [(4, .int (iI 0)), (3, .int (iI (-100000001))), (0, .ref h), (1, .int (iI (v : Int))), (2, .int (iI a))]) hx hb dX4_off_4 hl (by decide) rfl (fun ls hl => ?_)
  have L6 : ∀ (fu : Nat) (w : Nat) (mo : Int), ((w : Int) ≤ nd) → (mo = mOf ck dl er nd a v w) → nd.toNat - w < fu → ∀ ls : Array Slot, lv_has ls 6 [(0, .ref h), (1, .int (iI (v : Int))), (2, .int (iI a)), (3, .int (iI mo)), (4, .int (iI (w : Int)))] → W pr l en rm_X4_off s mi args below meth co s.heap [] 0 0 Q (F0 mi 6 ls []) := by
    intro fu
    induction fu with
    | zero =>
      intro w mo hw hmo hfu
      exact absurd hfu (Nat.not_lt_zero _)
    | succ fu ih6 =>
      intro w mo hw hmo hfu ls hl
      have hmr := mOf_rng (a := a) (v := v) hck her hdl hnd w
      refine lv_iload hx hb dX4_off_6 (lv_at hl 4 rfl) ?_
      refine lv_aload_n hx hb dX4_off_8 rfl (lv_at hl 0 rfl) ?_
      refine va_get (D := D) (ci := 4) (v := .int (iI nd)) (C := RX4) (T := TX4) (N := 39) hx hb hts iX4 hown hK.1 hP 0 rfl rfl 2 (by decide) (hts (.fieldLink RX4 112 "CloseClocksModel" "nodes" "I") (by decide +kernel)) (fun _ h9 => h9) rfl dX4_off_9 ?_
      refine kx_icmp_ge (tgt := 82) hx hb (by omega) (by omega) dX4_off_12 (by decide) (fun h12 => ?_) (fun h12 => ?_)
      · skip
        have hwe : nd.toNat = w := by omega
        refine lv_iload_n hx hb dX4_off_82 rfl (lv_at hl 3 rfl) ?_
        refine kx_top (b := (mOf ck dl er nd a v nd.toNat)) (by rw [hwe]; exact hmo) ?_
        exact hret _ _ dX4_off_83
      · skip
        refine lv_aload_n hx hb dX4_off_15 rfl (lv_at hl 0 rfl) ?_
        refine lv_iload_n hx hb dX4_off_16 rfl (lv_at hl 1 rfl) ?_
        refine lv_iload hx hb dX4_off_17 (lv_at hl 4 rfl) ?_
        refine kx_cV (As := [.int (iI (v : Int)), .int (iI (w : Int))]) (rest := []) (st1 := [.int (iI (if (mB dl nd (v : Int) (w : Int) = true) then 1 else 0))]) (q0 := 0) (ci := 4) ⟨hx, hb, hml, hown, hts⟩ (c_X4_areBeside l D cI cZ h m1 m4 m5 m6 m7 m8 m9 m21 m22 m23 m24 m25 m26 m30 m31 m32 m33 m34 m35 pl nd lk st bo ti te nr ml nn nl du nO nT wm wb ik kt kl hh pg dl er ra ck fa ft nw tu tc tr tf tt kc kr ke kd kf kg (v : Int) (w : Int) (by first | assumption | omega) (by first | assumption | omega) (by first | assumption | omega) (by first | assumption | omega)) (cwV 2 hts gX4_off_X4_areBeside rfl rfl rfl (by decide +kernel) ⟨Nat.le_of_ble_eq_true rfl, Nat.le_of_ble_eq_true rfl⟩) hK hP rfl rfl rfl hl.1 rfl (Nat.le_of_ble_eq_true rfl) dX4_off_19 ⟨Nat.zero_le _, Nat.zero_le _⟩ rfl ?_
        refine kx_if_eqB (tgt := 76) hx hb dX4_off_22 (by decide) (fun h22 => ?_) (fun h22 => ?_)
        · skip
          refine kx_iinc (z := ((w + 1 : Nat) : Int)) (lv' := [(4, .int (iI ((w + 1 : Nat) : Int))), (0, .ref h), (1, .int (iI (v : Int))), (2, .int (iI a)), (3, .int (iI mo))]) hx hb dX4_off_76 hl (k0 := 4) rfl (by omega) (by decide) rfl (fun ls hl => ?_)
          refine lv_goto (tgt := 6) hx hb dX4_off_79 (by decide) ?_
          exact ih6 (w + 1) mo (by first | assumption | omega) (by first | (rw [mOf_no h22]; exact hmo) | (rw [mOf_up h22 (by first | (left; omega) | (right; omega))]) | (rw [mOf_st h22 (by omega) (by omega)]; exact hmo)) (by omega) ls (lv_sub hl [1, 2, 3, 4, 0] rfl)
        · skip
          obtain ⟨g1, g2, g3⟩ := mB_dl hdl hnd h22
          have hdr := mD_rng (a := a) hck her g1 g2 g3
          refine lv_aload_n hx hb dX4_off_25 rfl (lv_at hl 0 rfl) ?_
          refine lv_iload_n hx hb dX4_off_26 rfl (lv_at hl 1 rfl) ?_
          refine lv_iload hx hb dX4_off_27 (lv_at hl 4 rfl) ?_
          refine kx_cV (As := [.int (iI (v : Int)), .int (iI (w : Int))]) (rest := []) (st1 := [.int (iI (mG ck dl er v w))]) (q0 := 0) (ci := 4) ⟨hx, hb, hml, hown, hts⟩ (c_X4_guess l D cI cZ h m1 m4 m5 m6 m7 m8 m9 m21 m22 m23 m24 m25 m26 m30 m31 m32 m33 m34 m35 pl nd lk st bo ti te nr ml nn nl du nO nT wm wb ik kt kl hh pg dl er ra ck fa ft nw tu tc tr tf tt kc kr ke kd kf kg v w (by first | assumption | omega) (g2) (g3)) (cwV 2 hts gX4_off_X4_guess rfl rfl rfl (by decide +kernel) ⟨Nat.le_of_ble_eq_true rfl, Nat.le_of_ble_eq_true rfl⟩) hK hP rfl rfl rfl hl.1 rfl (Nat.le_of_ble_eq_true rfl) dX4_off_29 ⟨Nat.zero_le _, Nat.zero_le _⟩ rfl ?_
          refine lv_aload_n hx hb dX4_off_32 rfl (lv_at hl 0 rfl) ?_
          refine va_get (D := D) (ci := 4) (v := .ref m7) (C := RX4) (T := TX4) (N := 39) hx hb hts iX4 hown hK.1 hP 0 rfl rfl 7 (by decide) (hts (.fieldLink RX4 22 "CloseClocksModel" "clockAt" "[I") (by decide +kernel)) (fun _ h9 => h9) rfl dX4_off_33 ?_
          refine kx_const (z := 4) hx hb dX4_off_36 rfl ?_
          refine lv_iload_n hx hb dX4_off_37 rfl (lv_at hl 1 rfl) ?_
          refine kx_imul hx hb dX4_off_38 ?_
          refine kx_iald (k := (4 * v)) hx hb hK hP 5 rfl (by omega) (by omega) (by decide) dX4_off_39 ?_
          refine kx_isub hx hb dX4_off_40 ?_
          refine lv_istore (lv' := [(5, .int (iI ((mG ck dl er v w) - (ck (4 * v))))), (0, .ref h), (1, .int (iI (v : Int))), (2, .int (iI a)), (3, .int (iI mo)), (4, .int (iI (w : Int)))]) hx hb dX4_off_41 hl (by decide) rfl (fun ls hl => ?_)
          refine lv_iload_n hx hb dX4_off_43 rfl (lv_at hl 3 rfl) ?_
          refine kx_if_eq (tgt := 52) hx hb (by omega) dX4_off_44 (by decide) (fun h44 => ?_) (fun h44 => ?_)
          · skip
            refine lv_iload hx hb dX4_off_52 (lv_at hl 0 rfl) ?_
            refine kx_ineg hx hb dX4_off_54 ?_
            refine kx_top (b := (mD ck dl er a v w)) (by first | (rw [mD, if_pos (by omega)]) | (rw [mD, if_neg (by omega)])) ?_
            refine lv_istore (lv' := [(5, .int (iI (mD ck dl er a v w))), (0, .ref h), (1, .int (iI (v : Int))), (2, .int (iI a)), (3, .int (iI mo)), (4, .int (iI (w : Int)))]) hx hb dX4_off_55 hl (by decide) rfl (fun ls hl => ?_)
            refine lv_iload_n hx hb dX4_off_57 rfl (lv_at hl 4 rfl) ?_
            refine kx_ldc (z := -100000001) hx hb hown (hts (.constant RX4 96 (-100000001)) (by decide +kernel)) dX4_off_58 (by decide) ?_
            refine kx_icmp_eq (tgt := 69) hx hb (by omega) (by omega) dX4_off_60 (by decide) (fun h60 => ?_) (fun h60 => ?_)
            · skip
              refine lv_iload hx hb dX4_off_69 (lv_at hl 0 rfl) ?_
              refine lv_goto (tgt := 75) hx hb dX4_off_71 (by decide) ?_
              refine lv_istore_n (lv' := [(3, .int (iI (mD ck dl er a v w))), (5, .int (iI (mD ck dl er a v w))), (0, .ref h), (1, .int (iI (v : Int))), (2, .int (iI a)), (4, .int (iI (w : Int)))]) hx hb dX4_off_75 rfl hl (by decide) rfl (fun ls hl => ?_)
              refine kx_iinc (z := ((w + 1 : Nat) : Int)) (lv' := [(4, .int (iI ((w + 1 : Nat) : Int))), (3, .int (iI (mD ck dl er a v w))), (5, .int (iI (mD ck dl er a v w))), (0, .ref h), (1, .int (iI (v : Int))), (2, .int (iI a))]) hx hb dX4_off_76 hl (k0 := 5) rfl (by omega) (by decide) rfl (fun ls hl => ?_)
              refine lv_goto (tgt := 6) hx hb dX4_off_79 (by decide) ?_
              exact ih6 (w + 1) (mD ck dl er a v w) (by first | assumption | omega) (by first | (rw [mOf_no h22]; exact hmo) | (rw [mOf_up h22 (by first | (left; omega) | (right; omega))]) | (rw [mOf_st h22 (by omega) (by omega)]; exact hmo)) (by omega) ls (lv_sub hl [3, 4, 5, 1, 0] rfl)
            · skip
              refine lv_iload hx hb dX4_off_63 (lv_at hl 0 rfl) ?_
              refine lv_iload_n hx hb dX4_off_65 rfl (lv_at hl 4 rfl) ?_
              refine kx_icmp_le (tgt := 74) hx hb (by omega) (by omega) dX4_off_66 (by decide) (fun h66 => ?_) (fun h66 => ?_)
              · skip
                refine lv_iload_n hx hb dX4_off_74 rfl (lv_at hl 4 rfl) ?_
                refine lv_istore_n (lv' := [(3, .int (iI mo)), (5, .int (iI (mD ck dl er a v w))), (0, .ref h), (1, .int (iI (v : Int))), (2, .int (iI a)), (4, .int (iI (w : Int)))]) hx hb dX4_off_75 rfl hl (by decide) rfl (fun ls hl => ?_)
                refine kx_iinc (z := ((w + 1 : Nat) : Int)) (lv' := [(4, .int (iI ((w + 1 : Nat) : Int))), (3, .int (iI mo)), (5, .int (iI (mD ck dl er a v w))), (0, .ref h), (1, .int (iI (v : Int))), (2, .int (iI a))]) hx hb dX4_off_76 hl (k0 := 5) rfl (by omega) (by decide) rfl (fun ls hl => ?_)
                refine lv_goto (tgt := 6) hx hb dX4_off_79 (by decide) ?_
                exact ih6 (w + 1) mo (by first | assumption | omega) (by first | (rw [mOf_no h22]; exact hmo) | (rw [mOf_up h22 (by first | (left; omega) | (right; omega))]) | (rw [mOf_st h22 (by omega) (by omega)]; exact hmo)) (by omega) ls (lv_sub hl [3, 4, 5, 1, 0] rfl)
              · skip
                refine lv_iload hx hb dX4_off_69 (lv_at hl 0 rfl) ?_
                refine lv_goto (tgt := 75) hx hb dX4_off_71 (by decide) ?_
                refine lv_istore_n (lv' := [(3, .int (iI (mD ck dl er a v w))), (5, .int (iI (mD ck dl er a v w))), (0, .ref h), (1, .int (iI (v : Int))), (2, .int (iI a)), (4, .int (iI (w : Int)))]) hx hb dX4_off_75 rfl hl (by decide) rfl (fun ls hl => ?_)
                refine kx_iinc (z := ((w + 1 : Nat) : Int)) (lv' := [(4, .int (iI ((w + 1 : Nat) : Int))), (3, .int (iI (mD ck dl er a v w))), (5, .int (iI (mD ck dl er a v w))), (0, .ref h), (1, .int (iI (v : Int))), (2, .int (iI a))]) hx hb dX4_off_76 hl (k0 := 5) rfl (by omega) (by decide) rfl (fun ls hl => ?_)
                refine lv_goto (tgt := 6) hx hb dX4_off_79 (by decide) ?_
                exact ih6 (w + 1) (mD ck dl er a v w) (by first | assumption | omega) (by first | (rw [mOf_no h22]; exact hmo) | (rw [mOf_up h22 (by first | (left; omega) | (right; omega))]) | (rw [mOf_st h22 (by omega) (by omega)]; exact hmo)) (by omega) ls (lv_sub hl [3, 4, 5, 1, 0] rfl)
          · skip
            refine lv_iload hx hb dX4_off_47 (lv_at hl 0 rfl) ?_
            refine lv_goto (tgt := 55) hx hb dX4_off_49 (by decide) ?_
            refine kx_top (b := (mD ck dl er a v w)) (by first | (rw [mD, if_pos (by omega)]) | (rw [mD, if_neg (by omega)])) ?_
            refine lv_istore (lv' := [(5, .int (iI (mD ck dl er a v w))), (0, .ref h), (1, .int (iI (v : Int))), (2, .int (iI a)), (3, .int (iI mo)), (4, .int (iI (w : Int)))]) hx hb dX4_off_55 hl (by decide) rfl (fun ls hl => ?_)
            refine lv_iload_n hx hb dX4_off_57 rfl (lv_at hl 4 rfl) ?_
            refine kx_ldc (z := -100000001) hx hb hown (hts (.constant RX4 96 (-100000001)) (by decide +kernel)) dX4_off_58 (by decide) ?_
            refine kx_icmp_eq (tgt := 69) hx hb (by omega) (by omega) dX4_off_60 (by decide) (fun h60 => ?_) (fun h60 => ?_)
            · skip
              refine lv_iload hx hb dX4_off_69 (lv_at hl 0 rfl) ?_
              refine lv_goto (tgt := 75) hx hb dX4_off_71 (by decide) ?_
              refine lv_istore_n (lv' := [(3, .int (iI (mD ck dl er a v w))), (5, .int (iI (mD ck dl er a v w))), (0, .ref h), (1, .int (iI (v : Int))), (2, .int (iI a)), (4, .int (iI (w : Int)))]) hx hb dX4_off_75 rfl hl (by decide) rfl (fun ls hl => ?_)
              refine kx_iinc (z := ((w + 1 : Nat) : Int)) (lv' := [(4, .int (iI ((w + 1 : Nat) : Int))), (3, .int (iI (mD ck dl er a v w))), (5, .int (iI (mD ck dl er a v w))), (0, .ref h), (1, .int (iI (v : Int))), (2, .int (iI a))]) hx hb dX4_off_76 hl (k0 := 5) rfl (by omega) (by decide) rfl (fun ls hl => ?_)
              refine lv_goto (tgt := 6) hx hb dX4_off_79 (by decide) ?_
              exact ih6 (w + 1) (mD ck dl er a v w) (by first | assumption | omega) (by first | (rw [mOf_no h22]; exact hmo) | (rw [mOf_up h22 (by first | (left; omega) | (right; omega))]) | (rw [mOf_st h22 (by omega) (by omega)]; exact hmo)) (by omega) ls (lv_sub hl [3, 4, 5, 1, 0] rfl)
            · skip
              refine lv_iload hx hb dX4_off_63 (lv_at hl 0 rfl) ?_
              refine lv_iload_n hx hb dX4_off_65 rfl (lv_at hl 4 rfl) ?_
              refine kx_icmp_le (tgt := 74) hx hb (by omega) (by omega) dX4_off_66 (by decide) (fun h66 => ?_) (fun h66 => ?_)
              · skip
                refine lv_iload_n hx hb dX4_off_74 rfl (lv_at hl 4 rfl) ?_
                refine lv_istore_n (lv' := [(3, .int (iI mo)), (5, .int (iI (mD ck dl er a v w))), (0, .ref h), (1, .int (iI (v : Int))), (2, .int (iI a)), (4, .int (iI (w : Int)))]) hx hb dX4_off_75 rfl hl (by decide) rfl (fun ls hl => ?_)
                refine kx_iinc (z := ((w + 1 : Nat) : Int)) (lv' := [(4, .int (iI ((w + 1 : Nat) : Int))), (3, .int (iI mo)), (5, .int (iI (mD ck dl er a v w))), (0, .ref h), (1, .int (iI (v : Int))), (2, .int (iI a))]) hx hb dX4_off_76 hl (k0 := 5) rfl (by omega) (by decide) rfl (fun ls hl => ?_)
                refine lv_goto (tgt := 6) hx hb dX4_off_79 (by decide) ?_
                exact ih6 (w + 1) mo (by first | assumption | omega) (by first | (rw [mOf_no h22]; exact hmo) | (rw [mOf_up h22 (by first | (left; omega) | (right; omega))]) | (rw [mOf_st h22 (by omega) (by omega)]; exact hmo)) (by omega) ls (lv_sub hl [3, 4, 5, 1, 0] rfl)
              · skip
                refine lv_iload hx hb dX4_off_69 (lv_at hl 0 rfl) ?_
                refine lv_goto (tgt := 75) hx hb dX4_off_71 (by decide) ?_
                refine lv_istore_n (lv' := [(3, .int (iI (mD ck dl er a v w))), (5, .int (iI (mD ck dl er a v w))), (0, .ref h), (1, .int (iI (v : Int))), (2, .int (iI a)), (4, .int (iI (w : Int)))]) hx hb dX4_off_75 rfl hl (by decide) rfl (fun ls hl => ?_)
                refine kx_iinc (z := ((w + 1 : Nat) : Int)) (lv' := [(4, .int (iI ((w + 1 : Nat) : Int))), (3, .int (iI (mD ck dl er a v w))), (5, .int (iI (mD ck dl er a v w))), (0, .ref h), (1, .int (iI (v : Int))), (2, .int (iI a))]) hx hb dX4_off_76 hl (k0 := 5) rfl (by omega) (by decide) rfl (fun ls hl => ?_)
                refine lv_goto (tgt := 6) hx hb dX4_off_79 (by decide) ?_
                exact ih6 (w + 1) (mD ck dl er a v w) (by first | assumption | omega) (by first | (rw [mOf_no h22]; exact hmo) | (rw [mOf_up h22 (by first | (left; omega) | (right; omega))]) | (rw [mOf_st h22 (by omega) (by omega)]; exact hmo)) (by omega) ls (lv_sub hl [3, 4, 5, 1, 0] rfl)
  exact L6 (nd.toNat - 0 + 1) 0 (-100000001) (by first | assumption | omega) (by rfl) (Nat.lt_succ_self _) ls (lv_sub hl [2, 3, 4, 1, 0] rfl)
def rm_X4_firstOf : Room := ({ frames := 0, cells := 0, slots := 0, locals := 0 } : Room)
set_option maxHeartbeats 4000000 in
set_option maxRecDepth 100000 in
theorem c_X4_firstOf (l : Launch) (D : va_G) (cI cZ : ClassId) (h m1 m4 m5 m6 m7 m8 m9 m21 m22 m23 m24 m25 m26 m30 m31 m32 m33 m34 m35 : Nat) (pl nd lk st bo ti te nr ml nn nl du nO nT wm wb ik kt kl : Int) (hh : Int64) (pg dl er ra ck fa ft nw tu tc tr tf tt kc kr ke kd kf kg : Nat → Int) (a f : Int) (ha : -1000000000 ≤ a ∧ a ≤ 1000000000) (hf : f = 1 ∨ f = 2) (hst : 1 ≤ st ∧ st ≤ 500) : kRO l yX4_firstOf wsX4_firstOf rm_X4_firstOf D cI cZ [.ref h, .int (iI a), .int (iI f)] (mdW cI cZ h m1 m4 m5 m6 m7 m8 m9 m21 m22 m23 m24 m25 m26 m30 m31 m32 m33 m34 m35 pl nd lk st bo ti te nr ml nn nl du nO nT wm wb ik kt kl hh pg dl er ra ck fa ft nw tu tc tr tf tt kc kr ke kd kf kg) (some (.int (iI (mFi st a f)))) := by
  refine kx_ROi (cc := cX4_firstOf) (maxL := 4) (by decide) rfl (Nat.le_of_ble_eq_true rfl) ?_
  intro pr en s mi args below meth co Q hx hb hml hown hts hK hP hret ls hl
  have hown : s.vm.findClass RX4 = some mi.cls := hown
  have iX4 : ∀ w ∈ wsX40, w ∈ wsX4_firstOf := by decide +kernel
  have hl : lv_has ls 4 [(0, .ref h), (1, .int (iI a)), (2, .int (iI f))] := hl
  have hfs : f * st = st ∨ f * st = 2 * st := by rcases hf with h | h <;> rw [h] <;> omega
  have hbd := mN_bd (a := a) hst hf ha.2
  have J27_1 : ∀ (x : Int), (x = mN st a f) → ∀ ls : Array Slot, lv_has ls 4 [(0, .ref h), (1, .int (iI a)), (2, .int (iI f))] → W pr l en rm_X4_firstOf s mi args below meth co s.heap [] 0 0 Q (F0 mi 27 ls [.int (iI x)]) := by
    intro x hx9 ls hl
    refine lv_istore_n (lv' := [(3, .int (iI x)), (0, .ref h), (1, .int (iI a)), (2, .int (iI f))]) hx hb dX4_firstOf_27 rfl hl (by decide) rfl (fun ls hl => ?_)
    refine lv_iload_n hx hb dX4_firstOf_28 rfl (lv_at hl 0 rfl) ?_
    refine kx_const (z := 2) hx hb dX4_firstOf_29 rfl ?_
    refine kx_irem hx hb (by omega) (by omega) dX4_firstOf_30 ?_
    refine lv_iload_n hx hb dX4_firstOf_31 rfl (lv_at hl 3 rfl) ?_
    refine kx_const (z := 2) hx hb dX4_firstOf_32 rfl ?_
    refine kx_irem hx hb (by omega) (by omega) dX4_firstOf_33 ?_
    refine kx_icmp_ne (tgt := 41) hx hb (by omega) (by omega) dX4_firstOf_34 (by decide) (fun h34 => ?_) (fun h34 => ?_)
    · skip
      refine lv_iload_n hx hb dX4_firstOf_41 rfl (lv_at hl 0 rfl) ?_
      refine kx_const (z := 1) hx hb dX4_firstOf_42 rfl ?_
      refine kx_iadd hx hb dX4_firstOf_43 ?_
      refine kx_top (b := (mFi st a f)) (by rw [hx9]; first | (rw [mFi, if_pos (by omega)]) | (rw [mFi, if_neg (by omega)])) ?_
      exact hret _ _ dX4_firstOf_44
    · skip
      refine lv_iload_n hx hb dX4_firstOf_37 rfl (lv_at hl 0 rfl) ?_
      refine lv_goto (tgt := 44) hx hb dX4_firstOf_38 (by decide) ?_
      refine kx_top (b := (mFi st a f)) (by rw [hx9]; first | (rw [mFi, if_pos (by omega)]) | (rw [mFi, if_neg (by omega)])) ?_
      exact hret _ _ dX4_firstOf_44
  refine lv_iload_n hx hb dX4_firstOf_0 rfl (lv_at hl 1 rfl) ?_
  refine lv_iload_n hx hb dX4_firstOf_1 rfl (lv_at hl 2 rfl) ?_
  refine lv_aload_n hx hb dX4_firstOf_2 rfl (lv_at hl 0 rfl) ?_
  refine va_get (D := D) (ci := 4) (v := .int (iI st)) (C := RX4) (T := TX4) (N := 39) hx hb hts iX4 hown hK.1 hP 0 rfl rfl 10 (by decide) (hts (.fieldLink RX4 32 "CloseClocksModel" "step" "I") (by decide +kernel)) (fun _ h9 => h9) rfl dX4_firstOf_3 ?_
  refine kx_imul hx hb dX4_firstOf_6 ?_
  refine kx_icmp_gt (tgt := 14) hx hb (by omega) (by omega) dX4_firstOf_7 (by decide) (fun h7 => ?_) (fun h7 => ?_)
  · skip
    refine lv_iload_n hx hb dX4_firstOf_14 rfl (lv_at hl 1 rfl) ?_
    refine lv_aload_n hx hb dX4_firstOf_15 rfl (lv_at hl 0 rfl) ?_
    refine va_get (D := D) (ci := 4) (v := .int (iI st)) (C := RX4) (T := TX4) (N := 39) hx hb hts iX4 hown hK.1 hP 0 rfl rfl 10 (by decide) (hts (.fieldLink RX4 32 "CloseClocksModel" "step" "I") (by decide +kernel)) (fun _ h9 => h9) rfl dX4_firstOf_16 ?_
    refine kx_iadd hx hb dX4_firstOf_19 ?_
    refine kx_const (z := 1) hx hb dX4_firstOf_20 rfl ?_
    refine kx_isub hx hb dX4_firstOf_21 ?_
    refine lv_aload_n hx hb dX4_firstOf_22 rfl (lv_at hl 0 rfl) ?_
    refine va_get (D := D) (ci := 4) (v := .int (iI st)) (C := RX4) (T := TX4) (N := 39) hx hb hts iX4 hown hK.1 hP 0 rfl rfl 10 (by decide) (hts (.fieldLink RX4 32 "CloseClocksModel" "step" "I") (by decide +kernel)) (fun _ h9 => h9) rfl dX4_firstOf_23 ?_
    refine kx_idiv hx hb (by omega) (by omega) dX4_firstOf_26 ?_
    exact J27_1 (((a + st) - 1) / st) (by first | (rw [mN, if_pos (by omega)]) | (rw [mN, if_neg (by omega)])) ls (lv_sub hl [0, 1, 2] rfl)
  · skip
    refine lv_iload_n hx hb dX4_firstOf_10 rfl (lv_at hl 2 rfl) ?_
    refine lv_goto (tgt := 27) hx hb dX4_firstOf_11 (by decide) ?_
    exact J27_1 f (by first | (rw [mN, if_pos (by omega)]) | (rw [mN, if_neg (by omega)])) ls (lv_sub hl [0, 1, 2] rfl)
def rm_X4_trigger : Room := ({ frames := 1, cells := 0, slots := 0, locals := 23 } : Room)
set_option maxHeartbeats 4000000 in
set_option maxRecDepth 100000 in
theorem c_X4_trigger (l : Launch) (D : va_G) (cI cZ : ClassId) (h m1 m4 m5 m6 m7 m8 m9 m21 m22 m23 m24 m25 m26 m30 m31 m32 m33 m34 m35 : Nat) (pl nd lk st bo ti te nr ml nn nl du nO nT wm wb ik kt kl : Int) (hh : Int64) (pg dl er ra ck fa ft nw tu tc tr tf tt kc kr ke kd kf kg : Nat → Int) (a b f : Int) (ha : -1000000000 ≤ a ∧ a ≤ 1000000000) (hb2 : -1000000000 ≤ b ∧ b ≤ 1000000000) (hf : f = 1 ∨ f = 2) (hst : 1 ≤ st ∧ st ≤ 500) : kRO l yX4_trigger wsX4_trigger rm_X4_trigger D cI cZ [.ref h, .int (iI a), .int (iI b), .int (iI f)] (mdW cI cZ h m1 m4 m5 m6 m7 m8 m9 m21 m22 m23 m24 m25 m26 m30 m31 m32 m33 m34 m35 pl nd lk st bo ti te nr ml nn nl du nO nT wm wb ik kt kl hh pg dl er ra ck fa ft nw tu tc tr tf tt kc kr ke kd kf kg) (some (.int (iI (mTr st a b f)))) := by
  refine kx_ROi (cc := cX4_trigger) (maxL := 5) (by decide) rfl (Nat.le_of_ble_eq_true rfl) ?_
  intro pr en s mi args below meth co Q hx hb hml hown hts hK hP hret ls hl
  have hown : s.vm.findClass RX4 = some mi.cls := hown
  have iX4 : ∀ w ∈ wsX40, w ∈ wsX4_trigger := by decide +kernel
  have hl : lv_has ls 5 [(0, .ref h), (1, .int (iI a)), (2, .int (iI b)), (3, .int (iI f))] := hl
  have hfs : f * st = st ∨ f * st = 2 * st := by rcases hf with h | h <;> rw [h] <;> omega
  have hbd := mFi_bd (a := a) hst hf ha.2
  refine lv_iload_n hx hb dX4_trigger_0 rfl (lv_at hl 1 rfl) ?_
  refine kx_ldc (z := -100000001) hx hb hown (hts (.constant RX4 96 (-100000001)) (by decide +kernel)) dX4_trigger_1 (by decide) ?_
  refine kx_icmp_ne (tgt := 9) hx hb (by omega) (by omega) dX4_trigger_3 (by decide) (fun h3 => ?_) (fun h3 => ?_)
  · skip
    refine lv_aload_n hx hb dX4_trigger_9 rfl (lv_at hl 0 rfl) ?_
    refine lv_iload_n hx hb dX4_trigger_10 rfl (lv_at hl 1 rfl) ?_
    refine lv_iload_n hx hb dX4_trigger_11 rfl (lv_at hl 3 rfl) ?_
    refine kx_cV (As := [.int (iI a), .int (iI f)]) (rest := []) (st1 := [.int (iI (mFi st a f))]) (q0 := 0) (ci := 4) ⟨hx, hb, hml, hown, hts⟩ (c_X4_firstOf l D cI cZ h m1 m4 m5 m6 m7 m8 m9 m21 m22 m23 m24 m25 m26 m30 m31 m32 m33 m34 m35 pl nd lk st bo ti te nr ml nn nl du nO nT wm wb ik kt kl hh pg dl er ra ck fa ft nw tu tc tr tf tt kc kr ke kd kf kg a f (by first | assumption | omega) (by first | assumption | omega) (by first | assumption | omega)) (cwV 2 hts gX4_trigger_X4_firstOf rfl rfl rfl (by decide +kernel) ⟨Nat.le_of_ble_eq_true rfl, Nat.le_of_ble_eq_true rfl⟩) hK hP rfl rfl rfl hl.1 rfl (Nat.le_of_ble_eq_true rfl) dX4_trigger_12 ⟨Nat.zero_le _, Nat.zero_le _⟩ rfl ?_
    refine lv_istore (lv' := [(4, .int (iI (mFi st a f))), (0, .ref h), (1, .int (iI a)), (2, .int (iI b)), (3, .int (iI f))]) hx hb dX4_trigger_15 hl (by decide) rfl (fun ls hl => ?_)
    refine lv_iload hx hb dX4_trigger_17 (lv_at hl 0 rfl) ?_
    refine lv_aload_n hx hb dX4_trigger_19 rfl (lv_at hl 1 rfl) ?_
    refine va_get (D := D) (ci := 4) (v := .int (iI st)) (C := RX4) (T := TX4) (N := 39) hx hb hts iX4 hown hK.1 hP 0 rfl rfl 10 (by decide) (hts (.fieldLink RX4 32 "CloseClocksModel" "step" "I") (by decide +kernel)) (fun _ h9 => h9) rfl dX4_trigger_20 ?_
    refine kx_imul hx hb dX4_trigger_23 ?_
    refine lv_iload_n hx hb dX4_trigger_24 rfl (lv_at hl 3 rfl) ?_
    refine kx_icmp_gt (tgt := 33) hx hb (by omega) (by omega) dX4_trigger_25 (by decide) (fun h25 => ?_) (fun h25 => ?_)
    · skip
      refine kx_ldc (z := -100000001) hx hb hown (hts (.constant RX4 96 (-100000001)) (by decide +kernel)) dX4_trigger_33 (by decide) ?_
      refine kx_top (b := (mTr st a b f)) (by first | (rw [mTr, if_pos (by omega)]) | (rw [mTr, if_neg (by omega), if_pos (by omega)]) | (rw [mTr, if_neg (by omega), if_neg (by omega)])) ?_
      exact hret _ _ dX4_trigger_35
    · skip
      refine lv_iload hx hb dX4_trigger_28 (lv_at hl 0 rfl) ?_
      refine lv_goto (tgt := 35) hx hb dX4_trigger_30 (by decide) ?_
      refine kx_top (b := (mTr st a b f)) (by first | (rw [mTr, if_pos (by omega)]) | (rw [mTr, if_neg (by omega), if_pos (by omega)]) | (rw [mTr, if_neg (by omega), if_neg (by omega)])) ?_
      exact hret _ _ dX4_trigger_35
  · skip
    refine kx_ldc (z := -100000001) hx hb hown (hts (.constant RX4 96 (-100000001)) (by decide +kernel)) dX4_trigger_6 (by decide) ?_
    refine kx_top (b := (mTr st a b f)) (by first | (rw [mTr, if_pos (by omega)]) | (rw [mTr, if_neg (by omega), if_pos (by omega)]) | (rw [mTr, if_neg (by omega), if_neg (by omega)])) ?_
    exact hret _ _ dX4_trigger_8
def rm_X4_upOf : Room := ({ frames := 4, cells := 0, slots := 0, locals := 90 } : Room)
set_option maxHeartbeats 4000000 in
set_option maxRecDepth 100000 in
theorem c_X4_upOf (l : Launch) (D : va_G) (cI cZ : ClassId) (h m1 m4 m5 m6 m7 m8 m9 m21 m22 m23 m24 m25 m26 m30 m31 m32 m33 m34 m35 : Nat) (pl nd lk st bo ti te nr ml nn nl du nO nT wm wb ik kt kl : Int) (hh : Int64) (pg dl er ra ck fa ft nw tu tc tr tf tt kc kr ke kd kf kg : Nat → Int) (v : Nat) (hv : v < 6) (hnd : 0 ≤ nd ∧ nd ≤ 6) (hdl : ∀ k : Nat, k < 36 → dl k = -100000001 ∨ (0 ≤ dl k ∧ dl k ≤ 3)) (hck : ∀ k : Nat, k < 24 → 0 ≤ ck k ∧ ck k ≤ 50000000) (her : ∀ k : Nat, k < 36 → -9 ≤ er k ∧ er k ≤ 9) (hst : 1 ≤ st ∧ st ≤ 500) : kRO l yX4_upOf wsX4_upOf rm_X4_upOf D cI cZ [.ref h, .int (iI (v : Int))] (mdW cI cZ h m1 m4 m5 m6 m7 m8 m9 m21 m22 m23 m24 m25 m26 m30 m31 m32 m33 m34 m35 pl nd lk st bo ti te nr ml nn nl du nO nT wm wb ik kt kl hh pg dl er ra ck fa ft nw tu tc tr tf tt kc kr ke kd kf kg) (some (.int (iI (mUp st (mOf ck dl er nd 1 v nd.toNat) (mOf ck dl er nd 0 v nd.toNat))))) := by
  refine kx_ROi (cc := cX4_upOf) (maxL := 3) (by decide) rfl (Nat.le_of_ble_eq_true rfl) ?_
  intro pr en s mi args below meth co Q hx hb hml hown hts hK hP hret ls hl
  have hown : s.vm.findClass RX4 = some mi.cls := hown
  have hl : lv_has ls 3 [(0, .ref h), (1, .int (iI (v : Int)))] := hl
  have hof0 := mOf_rng (a := 0) (v := v) hck her hdl hnd nd.toNat
  have hof1 := mOf_rng (a := 1) (v := v) hck her hdl hnd nd.toNat
  have hof2 := mOf_rng (a := 1) (v := v) hck her hdl hnd nd.toNat
  have hbd := mTr_bd (a := (mOf ck dl er nd 0 v nd.toNat)) (b := (mOf ck dl er nd 1 v nd.toNat)) hst (Or.inl rfl : (1 : Int) = 1 ∨ (1 : Int) = 2) (by omega)
  refine lv_aload_n hx hb dX4_upOf_0 rfl (lv_at hl 0 rfl) ?_
  refine lv_aload_n hx hb dX4_upOf_1 rfl (lv_at hl 0 rfl) ?_
  refine lv_iload_n hx hb dX4_upOf_2 rfl (lv_at hl 1 rfl) ?_
  refine kx_const (z := 0) hx hb dX4_upOf_3 rfl ?_
  refine kx_cV (As := [.int (iI (v : Int)), .int (iI 0)]) (rest := [.ref h]) (st1 := [.int (iI (mOf ck dl er nd 0 v nd.toNat)), .ref h]) (q0 := 0) (ci := 4) ⟨hx, hb, hml, hown, hts⟩ (c_X4_off l D cI cZ h m1 m4 m5 m6 m7 m8 m9 m21 m22 m23 m24 m25 m26 m30 m31 m32 m33 m34 m35 pl nd lk st bo ti te nr ml nn nl du nO nT wm wb ik kt kl hh pg dl er ra ck fa ft nw tu tc tr tf tt kc kr ke kd kf kg v 0 (by first | assumption | omega) (by first | assumption | omega) (by first | assumption | omega) (by first | assumption | omega) (by first | assumption | omega) (by first | assumption | omega)) (cwV 2 hts gX4_upOf_X4_off rfl rfl rfl (by decide +kernel) ⟨Nat.le_of_ble_eq_true rfl, Nat.le_of_ble_eq_true rfl⟩) hK hP rfl rfl rfl hl.1 rfl (Nat.le_of_ble_eq_true rfl) dX4_upOf_4 ⟨Nat.zero_le _, Nat.zero_le _⟩ rfl ?_
  refine lv_aload_n hx hb dX4_upOf_7 rfl (lv_at hl 0 rfl) ?_
  refine lv_iload_n hx hb dX4_upOf_8 rfl (lv_at hl 1 rfl) ?_
  refine kx_const (z := 1) hx hb dX4_upOf_9 rfl ?_
  refine kx_cV (As := [.int (iI (v : Int)), .int (iI 1)]) (rest := [.int (iI (mOf ck dl er nd 0 v nd.toNat)), .ref h]) (st1 := [.int (iI (mOf ck dl er nd 1 v nd.toNat)), .int (iI (mOf ck dl er nd 0 v nd.toNat)), .ref h]) (q0 := 0) (ci := 4) ⟨hx, hb, hml, hown, hts⟩ (c_X4_off l D cI cZ h m1 m4 m5 m6 m7 m8 m9 m21 m22 m23 m24 m25 m26 m30 m31 m32 m33 m34 m35 pl nd lk st bo ti te nr ml nn nl du nO nT wm wb ik kt kl hh pg dl er ra ck fa ft nw tu tc tr tf tt kc kr ke kd kf kg v 1 (by first | assumption | omega) (by first | assumption | omega) (by first | assumption | omega) (by first | assumption | omega) (by first | assumption | omega) (by first | assumption | omega)) (cwV 2 hts gX4_upOf_X4_off rfl rfl rfl (by decide +kernel) ⟨Nat.le_of_ble_eq_true rfl, Nat.le_of_ble_eq_true rfl⟩) hK hP rfl rfl rfl hl.1 rfl (Nat.le_of_ble_eq_true rfl) dX4_upOf_10 ⟨Nat.zero_le _, Nat.zero_le _⟩ rfl ?_
  refine kx_const (z := 1) hx hb dX4_upOf_13 rfl ?_
  refine kx_cV (As := [.int (iI (mOf ck dl er nd 0 v nd.toNat)), .int (iI (mOf ck dl er nd 1 v nd.toNat)), .int (iI 1)]) (rest := []) (st1 := [.int (iI (mTr st (mOf ck dl er nd 0 v nd.toNat) (mOf ck dl er nd 1 v nd.toNat) 1))]) (q0 := 0) (ci := 4) ⟨hx, hb, hml, hown, hts⟩ (c_X4_trigger l D cI cZ h m1 m4 m5 m6 m7 m8 m9 m21 m22 m23 m24 m25 m26 m30 m31 m32 m33 m34 m35 pl nd lk st bo ti te nr ml nn nl du nO nT wm wb ik kt kl hh pg dl er ra ck fa ft nw tu tc tr tf tt kc kr ke kd kf kg (mOf ck dl er nd 0 v nd.toNat) (mOf ck dl er nd 1 v nd.toNat) 1 (by first | assumption | omega) (by first | assumption | omega) (by first | assumption | omega) (by first | assumption | omega)) (cwV 3 hts gX4_upOf_X4_trigger rfl rfl rfl (by decide +kernel) ⟨Nat.le_of_ble_eq_true rfl, Nat.le_of_ble_eq_true rfl⟩) hK hP rfl rfl rfl hl.1 rfl (Nat.le_of_ble_eq_true rfl) dX4_upOf_14 ⟨Nat.zero_le _, Nat.zero_le _⟩ rfl ?_
  refine lv_istore_n (lv' := [(2, .int (iI (mTr st (mOf ck dl er nd 0 v nd.toNat) (mOf ck dl er nd 1 v nd.toNat) 1))), (0, .ref h), (1, .int (iI (v : Int)))]) hx hb dX4_upOf_17 rfl hl (by decide) rfl (fun ls hl => ?_)
  refine lv_iload_n hx hb dX4_upOf_18 rfl (lv_at hl 0 rfl) ?_
  refine kx_ldc (z := -100000001) hx hb hown (hts (.constant RX4 96 (-100000001)) (by decide +kernel)) dX4_upOf_19 (by decide) ?_
  refine kx_icmp_ne (tgt := 29) hx hb (by omega) (by omega) dX4_upOf_21 (by decide) (fun h21 => ?_) (fun h21 => ?_)
  · skip
    refine lv_iload_n hx hb dX4_upOf_29 rfl (lv_at hl 0 rfl) ?_
    refine kx_const (z := 1) hx hb dX4_upOf_30 rfl ?_
    refine kx_isub hx hb dX4_upOf_31 ?_
    refine kx_const (z := 2) hx hb dX4_upOf_32 rfl ?_
    refine kx_idiv hx hb (by omega) (by omega) dX4_upOf_33 ?_
    refine kx_top (b := (mUp st (mOf ck dl er nd 1 v nd.toNat) (mOf ck dl er nd 0 v nd.toNat))) (by first | (rw [mUp, if_pos (by omega)]) | (rw [mUp, if_neg (by omega)])) ?_
    exact hret _ _ dX4_upOf_34
  · skip
    refine kx_ldc (z := -100000001) hx hb hown (hts (.constant RX4 96 (-100000001)) (by decide +kernel)) dX4_upOf_24 (by decide) ?_
    refine lv_goto (tgt := 34) hx hb dX4_upOf_26 (by decide) ?_
    refine kx_top (b := (mUp st (mOf ck dl er nd 1 v nd.toNat) (mOf ck dl er nd 0 v nd.toNat))) (by first | (rw [mUp, if_pos (by omega)]) | (rw [mUp, if_neg (by omega)])) ?_
    exact hret _ _ dX4_upOf_34
def rm_X4_downOf : Room := ({ frames := 4, cells := 0, slots := 0, locals := 90 } : Room)
set_option maxHeartbeats 4000000 in
set_option maxRecDepth 100000 in
theorem c_X4_downOf (l : Launch) (D : va_G) (cI cZ : ClassId) (h m1 m4 m5 m6 m7 m8 m9 m21 m22 m23 m24 m25 m26 m30 m31 m32 m33 m34 m35 : Nat) (pl nd lk st bo ti te nr ml nn nl du nO nT wm wb ik kt kl : Int) (hh : Int64) (pg dl er ra ck fa ft nw tu tc tr tf tt kc kr ke kd kf kg : Nat → Int) (v : Nat) (hv : v < 6) (hnd : 0 ≤ nd ∧ nd ≤ 6) (hdl : ∀ k : Nat, k < 36 → dl k = -100000001 ∨ (0 ≤ dl k ∧ dl k ≤ 3)) (hck : ∀ k : Nat, k < 24 → 0 ≤ ck k ∧ ck k ≤ 50000000) (her : ∀ k : Nat, k < 36 → -9 ≤ er k ∧ er k ≤ 9) (hst : 1 ≤ st ∧ st ≤ 500) : kRO l yX4_downOf wsX4_downOf rm_X4_downOf D cI cZ [.ref h, .int (iI (v : Int))] (mdW cI cZ h m1 m4 m5 m6 m7 m8 m9 m21 m22 m23 m24 m25 m26 m30 m31 m32 m33 m34 m35 pl nd lk st bo ti te nr ml nn nl du nO nT wm wb ik kt kl hh pg dl er ra ck fa ft nw tu tc tr tf tt kc kr ke kd kf kg) (some (.int (iI (mDn st (mOf ck dl er nd 1 v nd.toNat) (mOf ck dl er nd 0 v nd.toNat))))) := by
  refine kx_ROi (cc := cX4_downOf) (maxL := 3) (by decide) rfl (Nat.le_of_ble_eq_true rfl) ?_
  intro pr en s mi args below meth co Q hx hb hml hown hts hK hP hret ls hl
  have hown : s.vm.findClass RX4 = some mi.cls := hown
  have hl : lv_has ls 3 [(0, .ref h), (1, .int (iI (v : Int)))] := hl
  have hof0 := mOf_rng (a := 0) (v := v) hck her hdl hnd nd.toNat
  have hof1 := mOf_rng (a := 1) (v := v) hck her hdl hnd nd.toNat
  have hof2 := mOf_rng (a := 1) (v := v) hck her hdl hnd nd.toNat
  have hbd := mTr_bd (a := (mOf ck dl er nd 1 v nd.toNat)) (b := (mOf ck dl er nd 0 v nd.toNat)) hst (Or.inr rfl : (2 : Int) = 1 ∨ (2 : Int) = 2) (by omega)
  refine lv_aload_n hx hb dX4_downOf_0 rfl (lv_at hl 0 rfl) ?_
  refine lv_aload_n hx hb dX4_downOf_1 rfl (lv_at hl 0 rfl) ?_
  refine lv_iload_n hx hb dX4_downOf_2 rfl (lv_at hl 1 rfl) ?_
  refine kx_const (z := 1) hx hb dX4_downOf_3 rfl ?_
  refine kx_cV (As := [.int (iI (v : Int)), .int (iI 1)]) (rest := [.ref h]) (st1 := [.int (iI (mOf ck dl er nd 1 v nd.toNat)), .ref h]) (q0 := 0) (ci := 4) ⟨hx, hb, hml, hown, hts⟩ (c_X4_off l D cI cZ h m1 m4 m5 m6 m7 m8 m9 m21 m22 m23 m24 m25 m26 m30 m31 m32 m33 m34 m35 pl nd lk st bo ti te nr ml nn nl du nO nT wm wb ik kt kl hh pg dl er ra ck fa ft nw tu tc tr tf tt kc kr ke kd kf kg v 1 (by first | assumption | omega) (by first | assumption | omega) (by first | assumption | omega) (by first | assumption | omega) (by first | assumption | omega) (by first | assumption | omega)) (cwV 2 hts gX4_downOf_X4_off rfl rfl rfl (by decide +kernel) ⟨Nat.le_of_ble_eq_true rfl, Nat.le_of_ble_eq_true rfl⟩) hK hP rfl rfl rfl hl.1 rfl (Nat.le_of_ble_eq_true rfl) dX4_downOf_4 ⟨Nat.zero_le _, Nat.zero_le _⟩ rfl ?_
  refine lv_aload_n hx hb dX4_downOf_7 rfl (lv_at hl 0 rfl) ?_
  refine lv_iload_n hx hb dX4_downOf_8 rfl (lv_at hl 1 rfl) ?_
  refine kx_const (z := 0) hx hb dX4_downOf_9 rfl ?_
  refine kx_cV (As := [.int (iI (v : Int)), .int (iI 0)]) (rest := [.int (iI (mOf ck dl er nd 1 v nd.toNat)), .ref h]) (st1 := [.int (iI (mOf ck dl er nd 0 v nd.toNat)), .int (iI (mOf ck dl er nd 1 v nd.toNat)), .ref h]) (q0 := 0) (ci := 4) ⟨hx, hb, hml, hown, hts⟩ (c_X4_off l D cI cZ h m1 m4 m5 m6 m7 m8 m9 m21 m22 m23 m24 m25 m26 m30 m31 m32 m33 m34 m35 pl nd lk st bo ti te nr ml nn nl du nO nT wm wb ik kt kl hh pg dl er ra ck fa ft nw tu tc tr tf tt kc kr ke kd kf kg v 0 (by first | assumption | omega) (by first | assumption | omega) (by first | assumption | omega) (by first | assumption | omega) (by first | assumption | omega) (by first | assumption | omega)) (cwV 2 hts gX4_downOf_X4_off rfl rfl rfl (by decide +kernel) ⟨Nat.le_of_ble_eq_true rfl, Nat.le_of_ble_eq_true rfl⟩) hK hP rfl rfl rfl hl.1 rfl (Nat.le_of_ble_eq_true rfl) dX4_downOf_10 ⟨Nat.zero_le _, Nat.zero_le _⟩ rfl ?_
  refine kx_const (z := 2) hx hb dX4_downOf_13 rfl ?_
  refine kx_cV (As := [.int (iI (mOf ck dl er nd 1 v nd.toNat)), .int (iI (mOf ck dl er nd 0 v nd.toNat)), .int (iI 2)]) (rest := []) (st1 := [.int (iI (mTr st (mOf ck dl er nd 1 v nd.toNat) (mOf ck dl er nd 0 v nd.toNat) 2))]) (q0 := 0) (ci := 4) ⟨hx, hb, hml, hown, hts⟩ (c_X4_trigger l D cI cZ h m1 m4 m5 m6 m7 m8 m9 m21 m22 m23 m24 m25 m26 m30 m31 m32 m33 m34 m35 pl nd lk st bo ti te nr ml nn nl du nO nT wm wb ik kt kl hh pg dl er ra ck fa ft nw tu tc tr tf tt kc kr ke kd kf kg (mOf ck dl er nd 1 v nd.toNat) (mOf ck dl er nd 0 v nd.toNat) 2 (by first | assumption | omega) (by first | assumption | omega) (by first | assumption | omega) (by first | assumption | omega)) (cwV 3 hts gX4_downOf_X4_trigger rfl rfl rfl (by decide +kernel) ⟨Nat.le_of_ble_eq_true rfl, Nat.le_of_ble_eq_true rfl⟩) hK hP rfl rfl rfl hl.1 rfl (Nat.le_of_ble_eq_true rfl) dX4_downOf_14 ⟨Nat.zero_le _, Nat.zero_le _⟩ rfl ?_
  refine lv_istore_n (lv' := [(2, .int (iI (mTr st (mOf ck dl er nd 1 v nd.toNat) (mOf ck dl er nd 0 v nd.toNat) 2))), (0, .ref h), (1, .int (iI (v : Int)))]) hx hb dX4_downOf_17 rfl hl (by decide) rfl (fun ls hl => ?_)
  refine lv_iload_n hx hb dX4_downOf_18 rfl (lv_at hl 0 rfl) ?_
  refine kx_ldc (z := -100000001) hx hb hown (hts (.constant RX4 96 (-100000001)) (by decide +kernel)) dX4_downOf_19 (by decide) ?_
  refine kx_icmp_ne (tgt := 29) hx hb (by omega) (by omega) dX4_downOf_21 (by decide) (fun h21 => ?_) (fun h21 => ?_)
  · skip
    refine lv_iload_n hx hb dX4_downOf_29 rfl (lv_at hl 0 rfl) ?_
    refine kx_const (z := 2) hx hb dX4_downOf_30 rfl ?_
    refine kx_idiv hx hb (by omega) (by omega) dX4_downOf_31 ?_
    refine kx_top (b := (mDn st (mOf ck dl er nd 1 v nd.toNat) (mOf ck dl er nd 0 v nd.toNat))) (by first | (rw [mDn, if_pos (by omega)]) | (rw [mDn, if_neg (by omega)])) ?_
    exact hret _ _ dX4_downOf_32
  · skip
    refine kx_ldc (z := -100000001) hx hb hown (hts (.constant RX4 96 (-100000001)) (by decide +kernel)) dX4_downOf_24 (by decide) ?_
    refine lv_goto (tgt := 32) hx hb dX4_downOf_26 (by decide) ?_
    refine kx_top (b := (mDn st (mOf ck dl er nd 1 v nd.toNat) (mOf ck dl er nd 0 v nd.toNat))) (by first | (rw [mDn, if_pos (by omega)]) | (rw [mDn, if_neg (by omega)])) ?_
    exact hret _ _ dX4_downOf_32
end
section
theorem up_lt {g P : Nat → Int} {v : Nat} {x : Int} (hg : ∀ k : Nat, k < v → g k = P k) (hx : x = P v) : ∀ k : Nat, k < v + 1 → va_up g v x k = P k := by
  intro k hk
  by_cases h : k = v
  · subst h; rw [up_s]; exact hx
  · rw [up_n _ _ _ h]; exact hg k (by omega)
theorem up_mix {g old new : Nat → Int} {v N : Nat} {x : Int} (hg : ∀ k : Nat, k < N → g k = if k < v then new k else old k) (hx : x = new v) : ∀ k : Nat, k < N → va_up g v x k = if k < v + 1 then new k else old k := by
  intro k hk
  by_cases h : k = v
  · subst h; rw [up_s, if_pos (by omega)]; exact hx
  · rw [up_n _ _ _ h, hg k hk]
    by_cases h2 : k < v
    · rw [if_pos h2, if_pos (by omega)]
    · rw [if_neg h2, if_neg (by omega)]
theorem mix_at {g old new : Nat → Int} {v N : Nat} (hg : ∀ k : Nat, k < N → g k = if k < v then new k else old k) (hv : v < N) : g v = old v := by rw [hg v hv, if_neg (by omega)]
theorem mix_0 {old new : Nat → Int} {N : Nat} : ∀ k : Nat, k < N → old k = if k < 0 then new k else old k := fun k _ => by rw [if_neg (by omega)]
-- a tick of the reference
def mTu (ck dl er : Nat → Int) (nd st : Int) (v : Nat) : Int := if mUp st (mOf ck dl er nd 1 v nd.toNat) (mOf ck dl er nd 0 v nd.toNat) ≠ -100000001 then 1 else if mDn st (mOf ck dl er nd 1 v nd.toNat) (mOf ck dl er nd 0 v nd.toNat) ≠ -100000001 then -1 else 0
def mFa (tu fa : Nat → Int) (v : Nat) : Int := if tu v = 1 ∨ (tu v = 0 ∧ fa v = 1) then 1 else 0
theorem mFa_01 (tu fa : Nat → Int) (v : Nat) : mFa tu fa v = 0 ∨ mFa tu fa v = 1 := by unfold mFa; split <;> omega
def mCk (ck ra nf : Nat → Int) (bo : Int) (k : Nat) : Int := if k % 4 = 0 then ck k + (ra (k / 4) + nf (k / 4) * bo) else ck (k - 1)
def sh4 (gc : Nat → Int) (v : Nat) : Nat → Int := va_up (va_up (va_up gc (4 * v + 3) (gc (4 * v + 2))) (4 * v + 2) (gc (4 * v + 1))) (4 * v + 1) (gc (4 * v))
theorem sh4_at (gc : Nat → Int) (v : Nat) : sh4 gc v (4 * v) = gc (4 * v) := by
  unfold sh4
  rw [up_n _ _ _ (by omega), up_n _ _ _ (by omega), up_n _ _ _ (by omega)]
theorem sh4_mix {gc ck new : Nat → Int} {v : Nat} {x : Int} (hg : ∀ k : Nat, k < 24 → gc k = if k / 4 < v then new k else ck k) (hv : v < 6) (hx : x = new (4 * v)) (h1 : ∀ j : Nat, 1 ≤ j → j ≤ 3 → new (4 * v + j) = ck (4 * v + j - 1)) : ∀ k : Nat, k < 24 → va_up (sh4 gc v) (4 * v) x k = if k / 4 < v + 1 then new k else ck k := by
  intro k hk
  have hq : ∀ j : Nat, j ≤ 3 → gc (4 * v + j) = ck (4 * v + j) := fun j hj => by rw [hg _ (by omega), if_neg (by omega)]
  by_cases h0 : k = 4 * v
  · subst h0; rw [up_s, if_pos (by omega)]; exact hx
  rw [up_n _ _ _ h0]
  unfold sh4
  by_cases e1 : k = 4 * v + 1
  · subst e1; rw [up_s, if_pos (by omega), h1 1 (by omega) (by omega)]; exact hq 0 (by omega)
  rw [up_n _ _ _ e1]
  by_cases e2 : k = 4 * v + 2
  · subst e2; rw [up_s, if_pos (by omega), h1 2 (by omega) (by omega)]; exact hq 1 (by omega)
  rw [up_n _ _ _ e2]
  by_cases e3 : k = 4 * v + 3
  · subst e3; rw [up_s, if_pos (by omega), h1 3 (by omega) (by omega)]; exact hq 2 (by omega)
  rw [up_n _ _ _ e3, hg k hk]
  by_cases h2 : k / 4 < v
  · rw [if_pos h2, if_pos (by omega)]
  · rw [if_neg h2, if_neg (by omega)]
def stC (ck : Nat → Int) (v : Nat) (z : Int) : Nat → Int := fun k => if k / 4 = v then z else ck k
def tFa (ck dl er fa : Nat → Int) (nd st : Int) : Nat → Int := fun k => if k < nd.toNat then mFa (mTu ck dl er nd st) fa k else fa k
def tFt (ck dl er fa ft : Nat → Int) (nd st : Int) : Nat → Int := fun k => if k < nd.toNat then ft k + mFa (mTu ck dl er nd st) fa k else ft k
def tCk (ck dl er fa ra : Nat → Int) (nd st bo : Int) : Nat → Int := fun k => if k / 4 < nd.toNat then mCk ck ra (mFa (mTu ck dl er nd st) fa) bo k else ck k
end
section
def rm_X4_setClock : Room := ({ frames := 0, cells := 0, slots := 0, locals := 0 } : Room)
set_option maxHeartbeats 4000000 in
set_option maxRecDepth 100000 in
theorem c_X4_setClock (l : Launch) (D : va_G) (cI cZ : ClassId) (h m1 m4 m5 m6 m7 m8 m9 m21 m22 m23 m24 m25 m26 m30 m31 m32 m33 m34 m35 : Nat) (pl nd lk st bo ti te nr ml nn nl du nO nT wm wb ik kt kl : Int) (hh : Int64) (pg dl er ra ck fa ft nw tu tc tr tf tt kc kr ke kd kf kg : Nat → Int) (v : Nat) (z : Int) (hv : v < 6) : kWR l yX4_setClock wsX4_setClock rm_X4_setClock D cI cZ [.ref h, .int (iI (v : Int)), .int (iI z)] (mdW cI cZ h m1 m4 m5 m6 m7 m8 m9 m21 m22 m23 m24 m25 m26 m30 m31 m32 m33 m34 m35 pl nd lk st bo ti te nr ml nn nl du nO nT wm wb ik kt kl hh pg dl er ra ck fa ft nw tu tc tr tf tt kc kr ke kd kf kg) (fun u : Unit => none) (fun u : Unit => True) (fun u : Unit => mdW cI cZ h m1 m4 m5 m6 m7 m8 m9 m21 m22 m23 m24 m25 m26 m30 m31 m32 m33 m34 m35 pl nd lk st bo ti te nr ml nn nl du nO nT wm wb ik kt kl hh pg dl er ra (stC ck v z) fa ft nw tu tc tr tf tt kc kr ke kd kf kg) 0 0 := by
  refine kx_WRv (cc := cX4_setClock) (maxL := 4) (by decide) rfl (Nat.le_of_ble_eq_true rfl) ?_
  intro pr en s mi args below meth co Q A hx hb hml hown hts hK hin hA hP hD hS hret ls hl
  have hown : s.vm.findClass RX4 = some mi.cls := hown
  have iX4 : ∀ w ∈ wsX40, w ∈ wsX4_setClock := by decide +kernel
  have hl : lv_has ls 4 [(0, .ref h), (1, .int (iI (v : Int))), (2, .int (iI z))] := hl
  generalize hH0 : s.heap = H0 at hA hP hS hret ⊢
  obtain ⟨H, hH⟩ : ∃ H : Heap, H = H0 := ⟨_, rfl⟩
  obtain ⟨locs, hlocs⟩ : ∃ locs : List Loc, locs = [] := ⟨_, rfl⟩
  have hS : va_S A H0 H locs := by rw [hH, hlocs]; exact hS
  have hP : va_P D vwCl (mdW cI cZ h m1 m4 m5 m6 m7 m8 m9 m21 m22 m23 m24 m25 m26 m30 m31 m32 m33 m34 m35 pl nd lk st bo ti te nr ml nn nl du nO nT wm wb ik kt kl hh pg dl er ra ck fa ft nw tu tc tr tf tt kc kr ke kd kf kg) H := by rw [hH]; exact hP
  suffices hgo : W pr l en rm_X4_setClock s mi args below meth co H locs 0 0 Q (F0 mi 0 ls []) by rw [hH, hlocs] at hgo; exact hgo
  clear hH hlocs
  refine kx_const (z := 0) hx hb dX4_setClock_0 rfl ?_
  refine lv_istore_n (lv' := [(3, .int (iI 0)), (0, .ref h), (1, .int (iI (v : Int))), (2, .int (iI z))]) hx hb dX4_setClock_1 rfl hl (by decide) rfl (fun ls hl => ?_)
  refine lv_iload_n hx hb dX4_setClock_2 rfl (lv_at hl 0 rfl) ?_
  refine kx_const (z := 4) hx hb dX4_setClock_3 rfl ?_
  refine kx_icmp_ge (tgt := 24) hx hb (by omega) (by omega) dX4_setClock_4 (by decide) (fun h4 => ?_) (fun h4 => ?_)
  · skip
    exfalso; omega
  · skip
    refine lv_aload_n hx hb dX4_setClock_7 rfl (lv_at hl 1 rfl) ?_
    refine va_get (D := D) (ci := 4) (v := .ref m7) (C := RX4) (T := TX4) (N := 39) hx hb hts iX4 hown hK.1 hP 0 rfl rfl 7 (by decide) (hts (.fieldLink RX4 22 "CloseClocksModel" "clockAt" "[I") (by decide +kernel)) (fun _ h9 => h9) rfl dX4_setClock_8 ?_
    refine kx_const (z := 4) hx hb dX4_setClock_11 rfl ?_
    refine lv_iload_n hx hb dX4_setClock_12 rfl (lv_at hl 2 rfl) ?_
    refine kx_imul hx hb dX4_setClock_13 ?_
    refine lv_iload_n hx hb dX4_setClock_14 rfl (lv_at hl 0 rfl) ?_
    refine kx_iadd hx hb dX4_setClock_15 ?_
    refine lv_iload_n hx hb dX4_setClock_16 rfl (lv_at hl 3 rfl) ?_
    refine kx_iast (k := ((4 * v) + 0)) (x := z) hx hb hK hP hD hS 5 rfl (by omega) (by omega) (by decide) dX4_setClock_17 (fun H locs hP hD hS => ?_)
    have hP : va_P D vwCl (mdW cI cZ h m1 m4 m5 m6 m7 m8 m9 m21 m22 m23 m24 m25 m26 m30 m31 m32 m33 m34 m35 pl nd lk st bo ti te nr ml nn nl du nO nT wm wb ik kt kl hh pg dl er ra (va_up ck ((4 * v) + 0) z) fa ft nw tu tc tr tf tt kc kr ke kd kf kg) H := hP
    have hD : va_D A (mdW cI cZ h m1 m4 m5 m6 m7 m8 m9 m21 m22 m23 m24 m25 m26 m30 m31 m32 m33 m34 m35 pl nd lk st bo ti te nr ml nn nl du nO nT wm wb ik kt kl hh pg dl er ra (va_up ck ((4 * v) + 0) z) fa ft nw tu tc tr tf tt kc kr ke kd kf kg) := hD
    refine kx_iinc (z := 1) (lv' := [(3, .int (iI 1)), (0, .ref h), (1, .int (iI (v : Int))), (2, .int (iI z))]) hx hb dX4_setClock_18 hl (k0 := 0) rfl (by omega) (by decide) rfl (fun ls hl => ?_)
    refine lv_goto (tgt := 2) hx hb dX4_setClock_21 (by decide) ?_
    refine lv_iload_n hx hb dX4_setClock_2 rfl (lv_at hl 0 rfl) ?_
    refine kx_const (z := 4) hx hb dX4_setClock_3 rfl ?_
    refine kx_icmp_ge (tgt := 24) hx hb (by omega) (by omega) dX4_setClock_4 (by decide) (fun h4 => ?_) (fun h4 => ?_)
    · skip
      exfalso; omega
    · skip
      refine lv_aload_n hx hb dX4_setClock_7 rfl (lv_at hl 1 rfl) ?_
      refine va_get (D := D) (ci := 4) (v := .ref m7) (C := RX4) (T := TX4) (N := 39) hx hb hts iX4 hown hK.1 hP 0 rfl rfl 7 (by decide) (hts (.fieldLink RX4 22 "CloseClocksModel" "clockAt" "[I") (by decide +kernel)) (fun _ h9 => h9) rfl dX4_setClock_8 ?_
      refine kx_const (z := 4) hx hb dX4_setClock_11 rfl ?_
      refine lv_iload_n hx hb dX4_setClock_12 rfl (lv_at hl 2 rfl) ?_
      refine kx_imul hx hb dX4_setClock_13 ?_
      refine lv_iload_n hx hb dX4_setClock_14 rfl (lv_at hl 0 rfl) ?_
      refine kx_iadd hx hb dX4_setClock_15 ?_
      refine lv_iload_n hx hb dX4_setClock_16 rfl (lv_at hl 3 rfl) ?_
      refine kx_iast (k := ((4 * v) + 1)) (x := z) hx hb hK hP hD hS 5 rfl (by omega) (by omega) (by decide) dX4_setClock_17 (fun H locs hP hD hS => ?_)
      have hP : va_P D vwCl (mdW cI cZ h m1 m4 m5 m6 m7 m8 m9 m21 m22 m23 m24 m25 m26 m30 m31 m32 m33 m34 m35 pl nd lk st bo ti te nr ml nn nl du nO nT wm wb ik kt kl hh pg dl er ra (va_up (va_up ck ((4 * v) + 0) z) ((4 * v) + 1) z) fa ft nw tu tc tr tf tt kc kr ke kd kf kg) H := hP
      have hD : va_D A (mdW cI cZ h m1 m4 m5 m6 m7 m8 m9 m21 m22 m23 m24 m25 m26 m30 m31 m32 m33 m34 m35 pl nd lk st bo ti te nr ml nn nl du nO nT wm wb ik kt kl hh pg dl er ra (va_up (va_up ck ((4 * v) + 0) z) ((4 * v) + 1) z) fa ft nw tu tc tr tf tt kc kr ke kd kf kg) := hD
      refine kx_iinc (z := 2) (lv' := [(3, .int (iI 2)), (0, .ref h), (1, .int (iI (v : Int))), (2, .int (iI z))]) hx hb dX4_setClock_18 hl (k0 := 0) rfl (by omega) (by decide) rfl (fun ls hl => ?_)
      refine lv_goto (tgt := 2) hx hb dX4_setClock_21 (by decide) ?_
      refine lv_iload_n hx hb dX4_setClock_2 rfl (lv_at hl 0 rfl) ?_
      refine kx_const (z := 4) hx hb dX4_setClock_3 rfl ?_
      refine kx_icmp_ge (tgt := 24) hx hb (by omega) (by omega) dX4_setClock_4 (by decide) (fun h4 => ?_) (fun h4 => ?_)
      · skip
        exfalso; omega
      · skip
        refine lv_aload_n hx hb dX4_setClock_7 rfl (lv_at hl 1 rfl) ?_
        refine va_get (D := D) (ci := 4) (v := .ref m7) (C := RX4) (T := TX4) (N := 39) hx hb hts iX4 hown hK.1 hP 0 rfl rfl 7 (by decide) (hts (.fieldLink RX4 22 "CloseClocksModel" "clockAt" "[I") (by decide +kernel)) (fun _ h9 => h9) rfl dX4_setClock_8 ?_
        refine kx_const (z := 4) hx hb dX4_setClock_11 rfl ?_
        refine lv_iload_n hx hb dX4_setClock_12 rfl (lv_at hl 2 rfl) ?_
        refine kx_imul hx hb dX4_setClock_13 ?_
        refine lv_iload_n hx hb dX4_setClock_14 rfl (lv_at hl 0 rfl) ?_
        refine kx_iadd hx hb dX4_setClock_15 ?_
        refine lv_iload_n hx hb dX4_setClock_16 rfl (lv_at hl 3 rfl) ?_
        refine kx_iast (k := ((4 * v) + 2)) (x := z) hx hb hK hP hD hS 5 rfl (by omega) (by omega) (by decide) dX4_setClock_17 (fun H locs hP hD hS => ?_)
        have hP : va_P D vwCl (mdW cI cZ h m1 m4 m5 m6 m7 m8 m9 m21 m22 m23 m24 m25 m26 m30 m31 m32 m33 m34 m35 pl nd lk st bo ti te nr ml nn nl du nO nT wm wb ik kt kl hh pg dl er ra (va_up (va_up (va_up ck ((4 * v) + 0) z) ((4 * v) + 1) z) ((4 * v) + 2) z) fa ft nw tu tc tr tf tt kc kr ke kd kf kg) H := hP
        have hD : va_D A (mdW cI cZ h m1 m4 m5 m6 m7 m8 m9 m21 m22 m23 m24 m25 m26 m30 m31 m32 m33 m34 m35 pl nd lk st bo ti te nr ml nn nl du nO nT wm wb ik kt kl hh pg dl er ra (va_up (va_up (va_up ck ((4 * v) + 0) z) ((4 * v) + 1) z) ((4 * v) + 2) z) fa ft nw tu tc tr tf tt kc kr ke kd kf kg) := hD
        refine kx_iinc (z := 3) (lv' := [(3, .int (iI 3)), (0, .ref h), (1, .int (iI (v : Int))), (2, .int (iI z))]) hx hb dX4_setClock_18 hl (k0 := 0) rfl (by omega) (by decide) rfl (fun ls hl => ?_)
        refine lv_goto (tgt := 2) hx hb dX4_setClock_21 (by decide) ?_
        refine lv_iload_n hx hb dX4_setClock_2 rfl (lv_at hl 0 rfl) ?_
        refine kx_const (z := 4) hx hb dX4_setClock_3 rfl ?_
        refine kx_icmp_ge (tgt := 24) hx hb (by omega) (by omega) dX4_setClock_4 (by decide) (fun h4 => ?_) (fun h4 => ?_)
        · skip
          exfalso; omega
        · skip
          refine lv_aload_n hx hb dX4_setClock_7 rfl (lv_at hl 1 rfl) ?_
          refine va_get (D := D) (ci := 4) (v := .ref m7) (C := RX4) (T := TX4) (N := 39) hx hb hts iX4 hown hK.1 hP 0 rfl rfl 7 (by decide) (hts (.fieldLink RX4 22 "CloseClocksModel" "clockAt" "[I") (by decide +kernel)) (fun _ h9 => h9) rfl dX4_setClock_8 ?_
          refine kx_const (z := 4) hx hb dX4_setClock_11 rfl ?_
          refine lv_iload_n hx hb dX4_setClock_12 rfl (lv_at hl 2 rfl) ?_
          refine kx_imul hx hb dX4_setClock_13 ?_
          refine lv_iload_n hx hb dX4_setClock_14 rfl (lv_at hl 0 rfl) ?_
          refine kx_iadd hx hb dX4_setClock_15 ?_
          refine lv_iload_n hx hb dX4_setClock_16 rfl (lv_at hl 3 rfl) ?_
          refine kx_iast (k := ((4 * v) + 3)) (x := z) hx hb hK hP hD hS 5 rfl (by omega) (by omega) (by decide) dX4_setClock_17 (fun H locs hP hD hS => ?_)
          have hP : va_P D vwCl (mdW cI cZ h m1 m4 m5 m6 m7 m8 m9 m21 m22 m23 m24 m25 m26 m30 m31 m32 m33 m34 m35 pl nd lk st bo ti te nr ml nn nl du nO nT wm wb ik kt kl hh pg dl er ra (va_up (va_up (va_up (va_up ck ((4 * v) + 0) z) ((4 * v) + 1) z) ((4 * v) + 2) z) ((4 * v) + 3) z) fa ft nw tu tc tr tf tt kc kr ke kd kf kg) H := hP
          have hD : va_D A (mdW cI cZ h m1 m4 m5 m6 m7 m8 m9 m21 m22 m23 m24 m25 m26 m30 m31 m32 m33 m34 m35 pl nd lk st bo ti te nr ml nn nl du nO nT wm wb ik kt kl hh pg dl er ra (va_up (va_up (va_up (va_up ck ((4 * v) + 0) z) ((4 * v) + 1) z) ((4 * v) + 2) z) ((4 * v) + 3) z) fa ft nw tu tc tr tf tt kc kr ke kd kf kg) := hD
          refine kx_iinc (z := 4) (lv' := [(3, .int (iI 4)), (0, .ref h), (1, .int (iI (v : Int))), (2, .int (iI z))]) hx hb dX4_setClock_18 hl (k0 := 0) rfl (by omega) (by decide) rfl (fun ls hl => ?_)
          refine lv_goto (tgt := 2) hx hb dX4_setClock_21 (by decide) ?_
          refine lv_iload_n hx hb dX4_setClock_2 rfl (lv_at hl 0 rfl) ?_
          refine kx_const (z := 4) hx hb dX4_setClock_3 rfl ?_
          refine kx_icmp_ge (tgt := 24) hx hb (by omega) (by omega) dX4_setClock_4 (by decide) (fun h4 => ?_) (fun h4 => ?_)
          · skip
            obtain ⟨hP, hD⟩ := kx_arr (g' := (stC ck v z)) hP hD 5 rfl (by intro k hk; simp only [va_up, stC]; (repeat' split) <;> first | rfl | omega)
            have hP : va_P D vwCl (mdW cI cZ h m1 m4 m5 m6 m7 m8 m9 m21 m22 m23 m24 m25 m26 m30 m31 m32 m33 m34 m35 pl nd lk st bo ti te nr ml nn nl du nO nT wm wb ik kt kl hh pg dl er ra (stC ck v z) fa ft nw tu tc tr tf tt kc kr ke kd kf kg) H := hP
            have hD : va_D A (mdW cI cZ h m1 m4 m5 m6 m7 m8 m9 m21 m22 m23 m24 m25 m26 m30 m31 m32 m33 m34 m35 pl nd lk st bo ti te nr ml nn nl du nO nT wm wb ik kt kl hh pg dl er ra (stC ck v z) fa ft nw tu tc tr tf tt kc kr ke kd kf kg) := hD
            exact hret () H locs _ _ (trivial) hP hD hS dX4_setClock_24
          · skip
            exfalso; omega
def rm_X4_tick : Room := ({ frames := 5, cells := 0, slots := 0, locals := 112 } : Room)
set_option maxHeartbeats 4000000 in
set_option maxRecDepth 100000 in
theorem c_X4_tick (l : Launch) (D : va_G) (cI cZ : ClassId) (h m1 m4 m5 m6 m7 m8 m9 m21 m22 m23 m24 m25 m26 m30 m31 m32 m33 m34 m35 : Nat) (pl nd lk st bo ti te nr ml nn nl du nO nT wm wb ik kt kl : Int) (hh : Int64) (pg dl er ra ck fa ft nw tu tc tr tf tt kc kr ke kd kf kg : Nat → Int)  (hnd : 0 ≤ nd ∧ nd ≤ 6) (hdl : ∀ k : Nat, k < 36 → dl k = -100000001 ∨ (0 ≤ dl k ∧ dl k ≤ 3)) (hck : ∀ k : Nat, k < 24 → 0 ≤ ck k ∧ ck k ≤ 50000000) (her : ∀ k : Nat, k < 36 → -9 ≤ er k ∧ er k ≤ 9) (hst : 1 ≤ st ∧ st ≤ 500) (hfa : ∀ k : Nat, k < 6 → fa k = 0 ∨ fa k = 1) (hra : ∀ k : Nat, k < 6 → 0 ≤ ra k ∧ ra k ≤ 110) : kWR l yX4_tick wsX4_tick rm_X4_tick D cI cZ [.ref h] (mdW cI cZ h m1 m4 m5 m6 m7 m8 m9 m21 m22 m23 m24 m25 m26 m30 m31 m32 m33 m34 m35 pl nd lk st bo ti te nr ml nn nl du nO nT wm wb ik kt kl hh pg dl er ra ck fa ft nw tu tc tr tf tt kc kr ke kd kf kg) (fun u : (Nat → Int) => none) (fun u : (Nat → Int) => True) (fun u : (Nat → Int) => mdW cI cZ h m1 m4 m5 m6 m7 m8 m9 m21 m22 m23 m24 m25 m26 m30 m31 m32 m33 m34 m35 pl nd lk st bo ti te nr ml nn nl du nO nT wm wb ik kt kl hh pg dl er ra (tCk ck dl er fa ra nd st bo) (tFa ck dl er fa nd st) (tFt ck dl er fa ft nd st) nw u tc tr tf tt kc kr ke kd kf kg) 0 0 := by
  refine kx_WRv (cc := cX4_tick) (maxL := 3) (by decide) rfl (Nat.le_of_ble_eq_true rfl) ?_
  intro pr en s mi args below meth co Q A hx hb hml hown hts hK hin hA hP hD hS hret ls hl
  have hown : s.vm.findClass RX4 = some mi.cls := hown
  have iX4 : ∀ w ∈ wsX40, w ∈ wsX4_tick := by decide +kernel
  have hl : lv_has ls 3 [(0, .ref h)] := hl
  generalize hH0 : s.heap = H0 at hA hP hS hret ⊢
  obtain ⟨H, hH⟩ : ∃ H : Heap, H = H0 := ⟨_, rfl⟩
  obtain ⟨locs, hlocs⟩ : ∃ locs : List Loc, locs = [] := ⟨_, rfl⟩
  have hS : va_S A H0 H locs := by rw [hH, hlocs]; exact hS
  have hP : va_P D vwCl (mdW cI cZ h m1 m4 m5 m6 m7 m8 m9 m21 m22 m23 m24 m25 m26 m30 m31 m32 m33 m34 m35 pl nd lk st bo ti te nr ml nn nl du nO nT wm wb ik kt kl hh pg dl er ra ck fa ft nw tu tc tr tf tt kc kr ke kd kf kg) H := by rw [hH]; exact hP
  suffices hgo : W pr l en rm_X4_tick s mi args below meth co H locs 0 0 Q (F0 mi 0 ls []) by rw [hH, hlocs] at hgo; exact hgo
  clear hH hlocs
  refine kx_const (z := 0) hx hb dX4_tick_0 rfl ?_
  refine lv_istore_n (lv' := [(1, .int (iI 0)), (0, .ref h)]) hx hb dX4_tick_1 rfl hl (by decide) rfl (fun ls hl => ?_)
  have L2 : ∀ (fu : Nat) (v : Nat) (g : Nat → Int), ((v : Int) ≤ nd) → (∀ k : Nat, k < v → g k = (mTu ck dl er nd st) k) → nd.toNat - v < fu → ∀ (H : Heap) (locs : List Loc), va_P D vwCl (mdW cI cZ h m1 m4 m5 m6 m7 m8 m9 m21 m22 m23 m24 m25 m26 m30 m31 m32 m33 m34 m35 pl nd lk st bo ti te nr ml nn nl du nO nT wm wb ik kt kl hh pg dl er ra ck fa ft nw g tc tr tf tt kc kr ke kd kf kg) H → va_D A (mdW cI cZ h m1 m4 m5 m6 m7 m8 m9 m21 m22 m23 m24 m25 m26 m30 m31 m32 m33 m34 m35 pl nd lk st bo ti te nr ml nn nl du nO nT wm wb ik kt kl hh pg dl er ra ck fa ft nw g tc tr tf tt kc kr ke kd kf kg) → va_S A H0 H locs → ∀ ls : Array Slot, lv_has ls 3 [(0, .ref h), (1, .int (iI (v : Int)))] → W pr l en rm_X4_tick s mi args below meth co H locs 0 0 Q (F0 mi 2 ls []) := by
    intro fu
    induction fu with
    | zero =>
      intro v g hv hg hfu
      exact absurd hfu (Nat.not_lt_zero _)
    | succ fu ih2 =>
      intro v g hv hg hfu H locs hP hD hS ls hl
      refine lv_iload_n hx hb dX4_tick_2 rfl (lv_at hl 1 rfl) ?_
      refine lv_aload_n hx hb dX4_tick_3 rfl (lv_at hl 0 rfl) ?_
      refine va_get (D := D) (ci := 4) (v := .int (iI nd)) (C := RX4) (T := TX4) (N := 39) hx hb hts iX4 hown hK.1 hP 0 rfl rfl 2 (by decide) (hts (.fieldLink RX4 112 "CloseClocksModel" "nodes" "I") (by decide +kernel)) (fun _ h9 => h9) rfl dX4_tick_4 ?_
      refine kx_icmp_ge (tgt := 51) hx hb (by omega) (by omega) dX4_tick_7 (by decide) (fun h7 => ?_) (fun h7 => ?_)
      · skip
        have hve : v = nd.toNat := by omega
        subst hve
        refine kx_const (z := 0) hx hb dX4_tick_51 rfl ?_
        refine lv_istore_n (lv' := [(1, .int (iI 0)), (0, .ref h)]) hx hb dX4_tick_52 rfl hl (by decide) rfl (fun ls hl => ?_)
        have L53 : ∀ (fu : Nat) (v : Nat) (ga : Nat → Int) (gt : Nat → Int) (gc : Nat → Int), ((v : Int) ≤ nd) → (∀ k : Nat, k < 6 → ga k = if k < v then (mFa (mTu ck dl er nd st) fa) k else fa k) → (∀ k : Nat, k < 6 → gt k = if k < v then (fun q => ft q + (mFa (mTu ck dl er nd st) fa) q) k else ft k) → (∀ k : Nat, k < 24 → gc k = if k / 4 < v then mCk ck ra (mFa (mTu ck dl er nd st) fa) bo k else ck k) → nd.toNat - v < fu → ∀ (H : Heap) (locs : List Loc), va_P D vwCl (mdW cI cZ h m1 m4 m5 m6 m7 m8 m9 m21 m22 m23 m24 m25 m26 m30 m31 m32 m33 m34 m35 pl nd lk st bo ti te nr ml nn nl du nO nT wm wb ik kt kl hh pg dl er ra gc ga gt nw g tc tr tf tt kc kr ke kd kf kg) H → va_D A (mdW cI cZ h m1 m4 m5 m6 m7 m8 m9 m21 m22 m23 m24 m25 m26 m30 m31 m32 m33 m34 m35 pl nd lk st bo ti te nr ml nn nl du nO nT wm wb ik kt kl hh pg dl er ra gc ga gt nw g tc tr tf tt kc kr ke kd kf kg) → va_S A H0 H locs → ∀ ls : Array Slot, lv_has ls 3 [(0, .ref h), (1, .int (iI (v : Int)))] → W pr l en rm_X4_tick s mi args below meth co H locs 0 0 Q (F0 mi 53 ls []) := by
          intro fu
          induction fu with
          | zero =>
            intro v ga gt gc hv2 hga hgt hgc hfu
            exact absurd hfu (Nat.not_lt_zero _)
          | succ fu ih53 =>
            intro v ga gt gc hv2 hga hgt hgc hfu H locs hP hD hS ls hl
            refine lv_iload_n hx hb dX4_tick_53 rfl (lv_at hl 1 rfl) ?_
            refine lv_aload_n hx hb dX4_tick_54 rfl (lv_at hl 0 rfl) ?_
            refine va_get (D := D) (ci := 4) (v := .int (iI nd)) (C := RX4) (T := TX4) (N := 39) hx hb hts iX4 hown hK.1 hP 0 rfl rfl 2 (by decide) (hts (.fieldLink RX4 112 "CloseClocksModel" "nodes" "I") (by decide +kernel)) (fun _ h9 => h9) rfl dX4_tick_55 ?_
            refine kx_icmp_ge (tgt := 198) hx hb (by omega) (by omega) dX4_tick_58 (by decide) (fun h58 => ?_) (fun h58 => ?_)
            · skip
              have hve2 : v = nd.toNat := by omega
              subst hve2
              obtain ⟨hP, hD⟩ := kx_arr (g' := (tFa ck dl er fa nd st)) hP hD 6 rfl (hga)
              have hP : va_P D vwCl (mdW cI cZ h m1 m4 m5 m6 m7 m8 m9 m21 m22 m23 m24 m25 m26 m30 m31 m32 m33 m34 m35 pl nd lk st bo ti te nr ml nn nl du nO nT wm wb ik kt kl hh pg dl er ra gc (tFa ck dl er fa nd st) gt nw g tc tr tf tt kc kr ke kd kf kg) H := hP
              have hD : va_D A (mdW cI cZ h m1 m4 m5 m6 m7 m8 m9 m21 m22 m23 m24 m25 m26 m30 m31 m32 m33 m34 m35 pl nd lk st bo ti te nr ml nn nl du nO nT wm wb ik kt kl hh pg dl er ra gc (tFa ck dl er fa nd st) gt nw g tc tr tf tt kc kr ke kd kf kg) := hD
              obtain ⟨hP, hD⟩ := kx_arr (g' := (tFt ck dl er fa ft nd st)) hP hD 7 rfl (hgt)
              have hP : va_P D vwCl (mdW cI cZ h m1 m4 m5 m6 m7 m8 m9 m21 m22 m23 m24 m25 m26 m30 m31 m32 m33 m34 m35 pl nd lk st bo ti te nr ml nn nl du nO nT wm wb ik kt kl hh pg dl er ra gc (tFa ck dl er fa nd st) (tFt ck dl er fa ft nd st) nw g tc tr tf tt kc kr ke kd kf kg) H := hP
              have hD : va_D A (mdW cI cZ h m1 m4 m5 m6 m7 m8 m9 m21 m22 m23 m24 m25 m26 m30 m31 m32 m33 m34 m35 pl nd lk st bo ti te nr ml nn nl du nO nT wm wb ik kt kl hh pg dl er ra gc (tFa ck dl er fa nd st) (tFt ck dl er fa ft nd st) nw g tc tr tf tt kc kr ke kd kf kg) := hD
              obtain ⟨hP, hD⟩ := kx_arr (g' := (tCk ck dl er fa ra nd st bo)) hP hD 5 rfl (hgc)
              have hP : va_P D vwCl (mdW cI cZ h m1 m4 m5 m6 m7 m8 m9 m21 m22 m23 m24 m25 m26 m30 m31 m32 m33 m34 m35 pl nd lk st bo ti te nr ml nn nl du nO nT wm wb ik kt kl hh pg dl er ra (tCk ck dl er fa ra nd st bo) (tFa ck dl er fa nd st) (tFt ck dl er fa ft nd st) nw g tc tr tf tt kc kr ke kd kf kg) H := hP
              have hD : va_D A (mdW cI cZ h m1 m4 m5 m6 m7 m8 m9 m21 m22 m23 m24 m25 m26 m30 m31 m32 m33 m34 m35 pl nd lk st bo ti te nr ml nn nl du nO nT wm wb ik kt kl hh pg dl er ra (tCk ck dl er fa ra nd st bo) (tFa ck dl er fa nd st) (tFt ck dl er fa ft nd st) nw g tc tr tf tt kc kr ke kd kf kg) := hD
              exact hret g H locs _ _ (trivial) hP hD hS dX4_tick_198
            · skip
              have hv6 : v < 6 := by omega
              have hgv : g v = (mTu ck dl er nd st) v := hg v (by omega)
              have hav : ga v = fa v := mix_at hga hv6
              have hfv := hfa v hv6
              have hgv4 : gc (4 * v) = ck (4 * v) := by rw [hgc _ (by omega), if_neg (by omega)]
              have htr : (mTu ck dl er nd st) v = 1 ∨ (mTu ck dl er nd st) v = -1 ∨ (mTu ck dl er nd st) v = 0 := by unfold mTu; (repeat' split) <;> omega
              have J99_1 : ∀ (x : Int), (x = (mFa (mTu ck dl er nd st) fa) v) → (x = 0 ∨ x = 1) → ∀ (H : Heap) (locs : List Loc), va_P D vwCl (mdW cI cZ h m1 m4 m5 m6 m7 m8 m9 m21 m22 m23 m24 m25 m26 m30 m31 m32 m33 m34 m35 pl nd lk st bo ti te nr ml nn nl du nO nT wm wb ik kt kl hh pg dl er ra gc ga gt nw g tc tr tf tt kc kr ke kd kf kg) H → va_D A (mdW cI cZ h m1 m4 m5 m6 m7 m8 m9 m21 m22 m23 m24 m25 m26 m30 m31 m32 m33 m34 m35 pl nd lk st bo ti te nr ml nn nl du nO nT wm wb ik kt kl hh pg dl er ra gc ga gt nw g tc tr tf tt kc kr ke kd kf kg) → va_S A H0 H locs → ∀ ls : Array Slot, lv_has ls 3 [(0, .ref h), (1, .int (iI (v : Int)))] → W pr l en rm_X4_tick s mi args below meth co H locs 0 0 Q (F0 mi 99 ls [.int (iI x), .int (iI (v : Int)), .ref m8]) := by
                intro x hx9 h01 H locs hP hD hS ls hl
                refine kx_zast (k := v) (x := x) hx hb hK hP hD hS 6 rfl (by omega) (by omega) (by decide) (by omega) dX4_tick_99 (fun H locs hP hD hS => ?_)
                have hP : va_P D vwCl (mdW cI cZ h m1 m4 m5 m6 m7 m8 m9 m21 m22 m23 m24 m25 m26 m30 m31 m32 m33 m34 m35 pl nd lk st bo ti te nr ml nn nl du nO nT wm wb ik kt kl hh pg dl er ra gc (va_up ga v x) gt nw g tc tr tf tt kc kr ke kd kf kg) H := hP
                have hD : va_D A (mdW cI cZ h m1 m4 m5 m6 m7 m8 m9 m21 m22 m23 m24 m25 m26 m30 m31 m32 m33 m34 m35 pl nd lk st bo ti te nr ml nn nl du nO nT wm wb ik kt kl hh pg dl er ra gc (va_up ga v x) gt nw g tc tr tf tt kc kr ke kd kf kg) := hD
                have J121_2 : ∀ (y : Int), (y = (mFa (mTu ck dl er nd st) fa) v) → ∀ (H : Heap) (locs : List Loc), va_P D vwCl (mdW cI cZ h m1 m4 m5 m6 m7 m8 m9 m21 m22 m23 m24 m25 m26 m30 m31 m32 m33 m34 m35 pl nd lk st bo ti te nr ml nn nl du nO nT wm wb ik kt kl hh pg dl er ra gc (va_up ga v x) gt nw g tc tr tf tt kc kr ke kd kf kg) H → va_D A (mdW cI cZ h m1 m4 m5 m6 m7 m8 m9 m21 m22 m23 m24 m25 m26 m30 m31 m32 m33 m34 m35 pl nd lk st bo ti te nr ml nn nl du nO nT wm wb ik kt kl hh pg dl er ra gc (va_up ga v x) gt nw g tc tr tf tt kc kr ke kd kf kg) → va_S A H0 H locs → ∀ ls : Array Slot, lv_has ls 3 [(0, .ref h), (1, .int (iI (v : Int)))] → W pr l en rm_X4_tick s mi args below meth co H locs 0 0 Q (F0 mi 121 ls [.int (iI y), .int (iI (gt v)), .int (iI (v : Int)), .ref m9]) := by
                  intro y hy9 H locs hP hD hS ls hl
                  refine kx_iadd hx hb dX4_tick_121 ?_
                  refine kx_iast (k := v) (x := ((gt v) + y)) hx hb hK hP hD hS 7 rfl (by omega) (by omega) (by decide) dX4_tick_122 (fun H locs hP hD hS => ?_)
                  have hP : va_P D vwCl (mdW cI cZ h m1 m4 m5 m6 m7 m8 m9 m21 m22 m23 m24 m25 m26 m30 m31 m32 m33 m34 m35 pl nd lk st bo ti te nr ml nn nl du nO nT wm wb ik kt kl hh pg dl er ra gc (va_up ga v x) (va_up gt v ((gt v) + y)) nw g tc tr tf tt kc kr ke kd kf kg) H := hP
                  have hD : va_D A (mdW cI cZ h m1 m4 m5 m6 m7 m8 m9 m21 m22 m23 m24 m25 m26 m30 m31 m32 m33 m34 m35 pl nd lk st bo ti te nr ml nn nl du nO nT wm wb ik kt kl hh pg dl er ra gc (va_up ga v x) (va_up gt v ((gt v) + y)) nw g tc tr tf tt kc kr ke kd kf kg) := hD
                  refine kx_const (z := 3) hx hb dX4_tick_123 rfl ?_
                  refine lv_istore_n (lv' := [(2, .int (iI 3)), (0, .ref h), (1, .int (iI (v : Int)))]) hx hb dX4_tick_124 rfl hl (by decide) rfl (fun ls hl => ?_)
                  refine lv_iload_n hx hb dX4_tick_125 rfl (lv_at hl 0 rfl) ?_
                  refine kx_if_le (tgt := 157) hx hb (by omega) dX4_tick_126 (by decide) (fun h126 => ?_) (fun h126 => ?_)
                  · skip
                    exfalso; omega
                  · skip
                    refine lv_aload_n hx hb dX4_tick_129 rfl (lv_at hl 1 rfl) ?_
                    refine va_get (D := D) (ci := 4) (v := .ref m7) (C := RX4) (T := TX4) (N := 39) hx hb hts iX4 hown hK.1 hP 0 rfl rfl 7 (by decide) (hts (.fieldLink RX4 22 "CloseClocksModel" "clockAt" "[I") (by decide +kernel)) (fun _ h9 => h9) rfl dX4_tick_130 ?_
                    refine kx_const (z := 4) hx hb dX4_tick_133 rfl ?_
                    refine lv_iload_n hx hb dX4_tick_134 rfl (lv_at hl 2 rfl) ?_
                    refine kx_imul hx hb dX4_tick_135 ?_
                    refine lv_iload_n hx hb dX4_tick_136 rfl (lv_at hl 0 rfl) ?_
                    refine kx_iadd hx hb dX4_tick_137 ?_
                    refine lv_aload_n hx hb dX4_tick_138 rfl (lv_at hl 1 rfl) ?_
                    refine va_get (D := D) (ci := 4) (v := .ref m7) (C := RX4) (T := TX4) (N := 39) hx hb hts iX4 hown hK.1 hP 0 rfl rfl 7 (by decide) (hts (.fieldLink RX4 22 "CloseClocksModel" "clockAt" "[I") (by decide +kernel)) (fun _ h9 => h9) rfl dX4_tick_139 ?_
                    refine kx_const (z := 4) hx hb dX4_tick_142 rfl ?_
                    refine lv_iload_n hx hb dX4_tick_143 rfl (lv_at hl 2 rfl) ?_
                    refine kx_imul hx hb dX4_tick_144 ?_
                    refine lv_iload_n hx hb dX4_tick_145 rfl (lv_at hl 0 rfl) ?_
                    refine kx_iadd hx hb dX4_tick_146 ?_
                    refine kx_const (z := 1) hx hb dX4_tick_147 rfl ?_
                    refine kx_isub hx hb dX4_tick_148 ?_
                    refine kx_iald (k := ((4 * v) + 2)) hx hb hK hP 5 rfl (by omega) (by omega) (by decide) dX4_tick_149 ?_
                    refine kx_iast (k := ((4 * v) + 3)) (x := (gc ((4 * v) + 2))) hx hb hK hP hD hS 5 rfl (by omega) (by omega) (by decide) dX4_tick_150 (fun H locs hP hD hS => ?_)
                    have hP : va_P D vwCl (mdW cI cZ h m1 m4 m5 m6 m7 m8 m9 m21 m22 m23 m24 m25 m26 m30 m31 m32 m33 m34 m35 pl nd lk st bo ti te nr ml nn nl du nO nT wm wb ik kt kl hh pg dl er ra (va_up gc ((4 * v) + 3) (gc ((4 * v) + 2))) (va_up ga v x) (va_up gt v ((gt v) + y)) nw g tc tr tf tt kc kr ke kd kf kg) H := hP
                    have hD : va_D A (mdW cI cZ h m1 m4 m5 m6 m7 m8 m9 m21 m22 m23 m24 m25 m26 m30 m31 m32 m33 m34 m35 pl nd lk st bo ti te nr ml nn nl du nO nT wm wb ik kt kl hh pg dl er ra (va_up gc ((4 * v) + 3) (gc ((4 * v) + 2))) (va_up ga v x) (va_up gt v ((gt v) + y)) nw g tc tr tf tt kc kr ke kd kf kg) := hD
                    refine kx_iinc (z := 2) (lv' := [(2, .int (iI 2)), (0, .ref h), (1, .int (iI (v : Int)))]) hx hb dX4_tick_151 hl (k0 := 0) rfl (by omega) (by decide) rfl (fun ls hl => ?_)
                    refine lv_goto (tgt := 125) hx hb dX4_tick_154 (by decide) ?_
                    refine lv_iload_n hx hb dX4_tick_125 rfl (lv_at hl 0 rfl) ?_
                    refine kx_if_le (tgt := 157) hx hb (by omega) dX4_tick_126 (by decide) (fun h126 => ?_) (fun h126 => ?_)
                    · skip
                      exfalso; omega
                    · skip
                      refine lv_aload_n hx hb dX4_tick_129 rfl (lv_at hl 1 rfl) ?_
                      refine va_get (D := D) (ci := 4) (v := .ref m7) (C := RX4) (T := TX4) (N := 39) hx hb hts iX4 hown hK.1 hP 0 rfl rfl 7 (by decide) (hts (.fieldLink RX4 22 "CloseClocksModel" "clockAt" "[I") (by decide +kernel)) (fun _ h9 => h9) rfl dX4_tick_130 ?_
                      refine kx_const (z := 4) hx hb dX4_tick_133 rfl ?_
                      refine lv_iload_n hx hb dX4_tick_134 rfl (lv_at hl 2 rfl) ?_
                      refine kx_imul hx hb dX4_tick_135 ?_
                      refine lv_iload_n hx hb dX4_tick_136 rfl (lv_at hl 0 rfl) ?_
                      refine kx_iadd hx hb dX4_tick_137 ?_
                      refine lv_aload_n hx hb dX4_tick_138 rfl (lv_at hl 1 rfl) ?_
                      refine va_get (D := D) (ci := 4) (v := .ref m7) (C := RX4) (T := TX4) (N := 39) hx hb hts iX4 hown hK.1 hP 0 rfl rfl 7 (by decide) (hts (.fieldLink RX4 22 "CloseClocksModel" "clockAt" "[I") (by decide +kernel)) (fun _ h9 => h9) rfl dX4_tick_139 ?_
                      refine kx_const (z := 4) hx hb dX4_tick_142 rfl ?_
                      refine lv_iload_n hx hb dX4_tick_143 rfl (lv_at hl 2 rfl) ?_
                      refine kx_imul hx hb dX4_tick_144 ?_
                      refine lv_iload_n hx hb dX4_tick_145 rfl (lv_at hl 0 rfl) ?_
                      refine kx_iadd hx hb dX4_tick_146 ?_
                      refine kx_const (z := 1) hx hb dX4_tick_147 rfl ?_
                      refine kx_isub hx hb dX4_tick_148 ?_
                      refine kx_iald (k := ((4 * v) + 1)) hx hb hK hP 5 rfl (by omega) (by omega) (by decide) dX4_tick_149 ?_
                      refine kx_iast (k := ((4 * v) + 2)) (x := ((va_up gc ((4 * v) + 3) (gc ((4 * v) + 2))) ((4 * v) + 1))) hx hb hK hP hD hS 5 rfl (by omega) (by omega) (by decide) dX4_tick_150 (fun H locs hP hD hS => ?_)
                      have hP : va_P D vwCl (mdW cI cZ h m1 m4 m5 m6 m7 m8 m9 m21 m22 m23 m24 m25 m26 m30 m31 m32 m33 m34 m35 pl nd lk st bo ti te nr ml nn nl du nO nT wm wb ik kt kl hh pg dl er ra (va_up (va_up gc ((4 * v) + 3) (gc ((4 * v) + 2))) ((4 * v) + 2) ((va_up gc ((4 * v) + 3) (gc ((4 * v) + 2))) ((4 * v) + 1))) (va_up ga v x) (va_up gt v ((gt v) + y)) nw g tc tr tf tt kc kr ke kd kf kg) H := hP
                      have hD : va_D A (mdW cI cZ h m1 m4 m5 m6 m7 m8 m9 m21 m22 m23 m24 m25 m26 m30 m31 m32 m33 m34 m35 pl nd lk st bo ti te nr ml nn nl du nO nT wm wb ik kt kl hh pg dl er ra (va_up (va_up gc ((4 * v) + 3) (gc ((4 * v) + 2))) ((4 * v) + 2) ((va_up gc ((4 * v) + 3) (gc ((4 * v) + 2))) ((4 * v) + 1))) (va_up ga v x) (va_up gt v ((gt v) + y)) nw g tc tr tf tt kc kr ke kd kf kg) := hD
                      refine kx_iinc (z := 1) (lv' := [(2, .int (iI 1)), (0, .ref h), (1, .int (iI (v : Int)))]) hx hb dX4_tick_151 hl (k0 := 0) rfl (by omega) (by decide) rfl (fun ls hl => ?_)
                      refine lv_goto (tgt := 125) hx hb dX4_tick_154 (by decide) ?_
                      refine lv_iload_n hx hb dX4_tick_125 rfl (lv_at hl 0 rfl) ?_
                      refine kx_if_le (tgt := 157) hx hb (by omega) dX4_tick_126 (by decide) (fun h126 => ?_) (fun h126 => ?_)
                      · skip
                        exfalso; omega
                      · skip
                        refine lv_aload_n hx hb dX4_tick_129 rfl (lv_at hl 1 rfl) ?_
                        refine va_get (D := D) (ci := 4) (v := .ref m7) (C := RX4) (T := TX4) (N := 39) hx hb hts iX4 hown hK.1 hP 0 rfl rfl 7 (by decide) (hts (.fieldLink RX4 22 "CloseClocksModel" "clockAt" "[I") (by decide +kernel)) (fun _ h9 => h9) rfl dX4_tick_130 ?_
                        refine kx_const (z := 4) hx hb dX4_tick_133 rfl ?_
                        refine lv_iload_n hx hb dX4_tick_134 rfl (lv_at hl 2 rfl) ?_
                        refine kx_imul hx hb dX4_tick_135 ?_
                        refine lv_iload_n hx hb dX4_tick_136 rfl (lv_at hl 0 rfl) ?_
                        refine kx_iadd hx hb dX4_tick_137 ?_
                        refine lv_aload_n hx hb dX4_tick_138 rfl (lv_at hl 1 rfl) ?_
                        refine va_get (D := D) (ci := 4) (v := .ref m7) (C := RX4) (T := TX4) (N := 39) hx hb hts iX4 hown hK.1 hP 0 rfl rfl 7 (by decide) (hts (.fieldLink RX4 22 "CloseClocksModel" "clockAt" "[I") (by decide +kernel)) (fun _ h9 => h9) rfl dX4_tick_139 ?_
                        refine kx_const (z := 4) hx hb dX4_tick_142 rfl ?_
                        refine lv_iload_n hx hb dX4_tick_143 rfl (lv_at hl 2 rfl) ?_
                        refine kx_imul hx hb dX4_tick_144 ?_
                        refine lv_iload_n hx hb dX4_tick_145 rfl (lv_at hl 0 rfl) ?_
                        refine kx_iadd hx hb dX4_tick_146 ?_
                        refine kx_const (z := 1) hx hb dX4_tick_147 rfl ?_
                        refine kx_isub hx hb dX4_tick_148 ?_
                        refine kx_iald (k := (4 * v)) hx hb hK hP 5 rfl (by omega) (by omega) (by decide) dX4_tick_149 ?_
                        refine kx_iast (k := ((4 * v) + 1)) (x := ((va_up (va_up gc ((4 * v) + 3) (gc ((4 * v) + 2))) ((4 * v) + 2) ((va_up gc ((4 * v) + 3) (gc ((4 * v) + 2))) ((4 * v) + 1))) (4 * v))) hx hb hK hP hD hS 5 rfl (by omega) (by omega) (by decide) dX4_tick_150 (fun H locs hP hD hS => ?_)
                        have hP : va_P D vwCl (mdW cI cZ h m1 m4 m5 m6 m7 m8 m9 m21 m22 m23 m24 m25 m26 m30 m31 m32 m33 m34 m35 pl nd lk st bo ti te nr ml nn nl du nO nT wm wb ik kt kl hh pg dl er ra (va_up (va_up (va_up gc ((4 * v) + 3) (gc ((4 * v) + 2))) ((4 * v) + 2) ((va_up gc ((4 * v) + 3) (gc ((4 * v) + 2))) ((4 * v) + 1))) ((4 * v) + 1) ((va_up (va_up gc ((4 * v) + 3) (gc ((4 * v) + 2))) ((4 * v) + 2) ((va_up gc ((4 * v) + 3) (gc ((4 * v) + 2))) ((4 * v) + 1))) (4 * v))) (va_up ga v x) (va_up gt v ((gt v) + y)) nw g tc tr tf tt kc kr ke kd kf kg) H := hP
                        have hD : va_D A (mdW cI cZ h m1 m4 m5 m6 m7 m8 m9 m21 m22 m23 m24 m25 m26 m30 m31 m32 m33 m34 m35 pl nd lk st bo ti te nr ml nn nl du nO nT wm wb ik kt kl hh pg dl er ra (va_up (va_up (va_up gc ((4 * v) + 3) (gc ((4 * v) + 2))) ((4 * v) + 2) ((va_up gc ((4 * v) + 3) (gc ((4 * v) + 2))) ((4 * v) + 1))) ((4 * v) + 1) ((va_up (va_up gc ((4 * v) + 3) (gc ((4 * v) + 2))) ((4 * v) + 2) ((va_up gc ((4 * v) + 3) (gc ((4 * v) + 2))) ((4 * v) + 1))) (4 * v))) (va_up ga v x) (va_up gt v ((gt v) + y)) nw g tc tr tf tt kc kr ke kd kf kg) := hD
                        refine kx_iinc (z := 0) (lv' := [(2, .int (iI 0)), (0, .ref h), (1, .int (iI (v : Int)))]) hx hb dX4_tick_151 hl (k0 := 0) rfl (by omega) (by decide) rfl (fun ls hl => ?_)
                        refine lv_goto (tgt := 125) hx hb dX4_tick_154 (by decide) ?_
                        refine lv_iload_n hx hb dX4_tick_125 rfl (lv_at hl 0 rfl) ?_
                        refine kx_if_le (tgt := 157) hx hb (by omega) dX4_tick_126 (by decide) (fun h126 => ?_) (fun h126 => ?_)
                        · skip
                          have hP : va_P D vwCl (mdW cI cZ h m1 m4 m5 m6 m7 m8 m9 m21 m22 m23 m24 m25 m26 m30 m31 m32 m33 m34 m35 pl nd lk st bo ti te nr ml nn nl du nO nT wm wb ik kt kl hh pg dl er ra (sh4 gc v) (va_up ga v x) (va_up gt v ((gt v) + y)) nw g tc tr tf tt kc kr ke kd kf kg) H := by have := hP; simp only [up_n _ _ _ (show 4 * v + 1 ≠ 4 * v + 2 by omega), up_n _ _ _ (show 4 * v + 1 ≠ 4 * v + 3 by omega), up_n _ _ _ (show 4 * v ≠ 4 * v + 1 by omega), up_n _ _ _ (show 4 * v ≠ 4 * v + 2 by omega), up_n _ _ _ (show 4 * v ≠ 4 * v + 3 by omega), up_n _ _ _ (show 4 * v + 2 ≠ 4 * v + 3 by omega)] at this; exact this
                          have hD : va_D A (mdW cI cZ h m1 m4 m5 m6 m7 m8 m9 m21 m22 m23 m24 m25 m26 m30 m31 m32 m33 m34 m35 pl nd lk st bo ti te nr ml nn nl du nO nT wm wb ik kt kl hh pg dl er ra (sh4 gc v) (va_up ga v x) (va_up gt v ((gt v) + y)) nw g tc tr tf tt kc kr ke kd kf kg) := by have := hD; simp only [up_n _ _ _ (show 4 * v + 1 ≠ 4 * v + 2 by omega), up_n _ _ _ (show 4 * v + 1 ≠ 4 * v + 3 by omega), up_n _ _ _ (show 4 * v ≠ 4 * v + 1 by omega), up_n _ _ _ (show 4 * v ≠ 4 * v + 2 by omega), up_n _ _ _ (show 4 * v ≠ 4 * v + 3 by omega), up_n _ _ _ (show 4 * v + 2 ≠ 4 * v + 3 by omega)] at this; exact this
                          refine lv_aload_n hx hb dX4_tick_157 rfl (lv_at hl 1 rfl) ?_
                          refine va_get (D := D) (ci := 4) (v := .ref m7) (C := RX4) (T := TX4) (N := 39) hx hb hts iX4 hown hK.1 hP 0 rfl rfl 7 (by decide) (hts (.fieldLink RX4 22 "CloseClocksModel" "clockAt" "[I") (by decide +kernel)) (fun _ h9 => h9) rfl dX4_tick_158 ?_
                          refine kx_const (z := 4) hx hb dX4_tick_161 rfl ?_
                          refine lv_iload_n hx hb dX4_tick_162 rfl (lv_at hl 2 rfl) ?_
                          refine kx_imul hx hb dX4_tick_163 ?_
                          refine lv_dup2_11 hx hb dX4_tick_164 rfl rfl ?_
                          refine kx_iald (k := (4 * v)) hx hb hK hP 5 rfl (by omega) (by omega) (by decide) dX4_tick_165 ?_
                          have J189_3 : ∀ (b9 : Int), (b9 = x * bo) → ∀ (H : Heap) (locs : List Loc), va_P D vwCl (mdW cI cZ h m1 m4 m5 m6 m7 m8 m9 m21 m22 m23 m24 m25 m26 m30 m31 m32 m33 m34 m35 pl nd lk st bo ti te nr ml nn nl du nO nT wm wb ik kt kl hh pg dl er ra (sh4 gc v) (va_up ga v x) (va_up gt v ((gt v) + y)) nw g tc tr tf tt kc kr ke kd kf kg) H → va_D A (mdW cI cZ h m1 m4 m5 m6 m7 m8 m9 m21 m22 m23 m24 m25 m26 m30 m31 m32 m33 m34 m35 pl nd lk st bo ti te nr ml nn nl du nO nT wm wb ik kt kl hh pg dl er ra (sh4 gc v) (va_up ga v x) (va_up gt v ((gt v) + y)) nw g tc tr tf tt kc kr ke kd kf kg) → va_S A H0 H locs → ∀ ls : Array Slot, lv_has ls 3 [(0, .ref h), (1, .int (iI (v : Int))), (2, .int (iI 0))] → W pr l en rm_X4_tick s mi args below meth co H locs 0 0 Q (F0 mi 189 ls [.int (iI b9), .int (iI (ra v)), .int (iI (gc (4 * v))), .int (iI (4 * (v : Int))), .ref m7]) := by
                            intro b9 hb9 H locs hP hD hS ls hl
                            refine kx_iadd hx hb dX4_tick_189 ?_
                            refine kx_iadd hx hb dX4_tick_190 ?_
                            refine kx_iast (k := (4 * v)) (x := ((gc (4 * v)) + ((ra v) + b9))) hx hb hK hP hD hS 5 rfl (by omega) (by omega) (by decide) dX4_tick_191 (fun H locs hP hD hS => ?_)
                            have hP : va_P D vwCl (mdW cI cZ h m1 m4 m5 m6 m7 m8 m9 m21 m22 m23 m24 m25 m26 m30 m31 m32 m33 m34 m35 pl nd lk st bo ti te nr ml nn nl du nO nT wm wb ik kt kl hh pg dl er ra (va_up (sh4 gc v) (4 * v) ((gc (4 * v)) + ((ra v) + b9))) (va_up ga v x) (va_up gt v ((gt v) + y)) nw g tc tr tf tt kc kr ke kd kf kg) H := hP
                            have hD : va_D A (mdW cI cZ h m1 m4 m5 m6 m7 m8 m9 m21 m22 m23 m24 m25 m26 m30 m31 m32 m33 m34 m35 pl nd lk st bo ti te nr ml nn nl du nO nT wm wb ik kt kl hh pg dl er ra (va_up (sh4 gc v) (4 * v) ((gc (4 * v)) + ((ra v) + b9))) (va_up ga v x) (va_up gt v ((gt v) + y)) nw g tc tr tf tt kc kr ke kd kf kg) := hD
                            refine kx_iinc (z := ((v + 1 : Nat) : Int)) (lv' := [(1, .int (iI ((v + 1 : Nat) : Int))), (0, .ref h), (2, .int (iI 0))]) hx hb dX4_tick_192 hl (k0 := 1) rfl (by omega) (by decide) rfl (fun ls hl => ?_)
                            refine lv_goto (tgt := 53) hx hb dX4_tick_195 (by decide) ?_
                            exact ih53 (v + 1) (va_up ga v x) (va_up gt v ((gt v) + y)) (va_up (sh4 gc v) (4 * v) ((gc (4 * v)) + ((ra v) + b9))) (by first | assumption | omega) (up_mix hga hx9) (up_mix hgt (by rw [hy9, mix_at hgt (by omega)])) (sh4_mix hgc (by omega) (by rw [hgv4, hb9, mCk, if_pos (by omega), show 4 * v / 4 = v by omega, hx9]) (fun j h1 h2 => by rw [mCk, if_neg (by omega)])) (by omega) H locs hP hD hS ls (lv_sub hl [1, 0] rfl)
                          refine kx_top (b := (gc (4 * v))) (sh4_at _ _) ?_
                          refine lv_aload_n hx hb dX4_tick_166 rfl (lv_at hl 1 rfl) ?_
                          refine va_get (D := D) (ci := 4) (v := .ref m6) (C := RX4) (T := TX4) (N := 39) hx hb hts iX4 hown hK.1 hP 0 rfl rfl 6 (by decide) (hts (.fieldLink RX4 19 "CloseClocksModel" "rateOf" "[I") (by decide +kernel)) (fun _ h9 => h9) rfl dX4_tick_167 ?_
                          refine lv_iload_n hx hb dX4_tick_170 rfl (lv_at hl 2 rfl) ?_
                          refine kx_iald (k := v) hx hb hK hP 4 rfl (by omega) (by omega) (by decide) dX4_tick_171 ?_
                          refine lv_aload_n hx hb dX4_tick_172 rfl (lv_at hl 1 rfl) ?_
                          refine va_get (D := D) (ci := 4) (v := .ref m8) (C := RX4) (T := TX4) (N := 39) hx hb hts iX4 hown hK.1 hP 0 rfl rfl 8 (by decide) (hts (.fieldLink RX4 25 "CloseClocksModel" "isFast" "[Z") (by decide +kernel)) (fun _ h9 => h9) rfl dX4_tick_173 ?_
                          refine lv_iload_n hx hb dX4_tick_176 rfl (lv_at hl 2 rfl) ?_
                          refine kx_zald (k := v) hx hb hK hP 6 rfl (by omega) (by omega) (by decide) dX4_tick_177 ?_
                          refine kx_top (b := x) (up_s _ _ _) ?_
                          refine kx_if_eq (tgt := 188) hx hb (by omega) dX4_tick_178 (by decide) (fun h178 => ?_) (fun h178 => ?_)
                          · skip
                            refine kx_const (z := 0) hx hb dX4_tick_188 rfl ?_
                            exact J189_3 0 (by rcases h01 with q | q <;> (first | omega | (rw [q]; omega))) H locs hP hD hS ls (lv_sub hl [1, 2, 0] rfl)
                          · skip
                            refine lv_aload_n hx hb dX4_tick_181 rfl (lv_at hl 1 rfl) ?_
                            refine va_get (D := D) (ci := 4) (v := .int (iI bo)) (C := RX4) (T := TX4) (N := 39) hx hb hts iX4 hown hK.1 hP 0 rfl rfl 11 (by decide) (hts (.fieldLink RX4 36 "CloseClocksModel" "boost" "I") (by decide +kernel)) (fun _ h9 => h9) rfl dX4_tick_182 ?_
                            refine lv_goto (tgt := 189) hx hb dX4_tick_185 (by decide) ?_
                            exact J189_3 bo (by rcases h01 with q | q <;> (first | omega | (rw [q]; omega))) H locs hP hD hS ls (lv_sub hl [1, 2, 0] rfl)
                        · skip
                          exfalso; omega
                refine lv_aload_n hx hb dX4_tick_100 rfl (lv_at hl 0 rfl) ?_
                refine va_get (D := D) (ci := 4) (v := .ref m9) (C := RX4) (T := TX4) (N := 39) hx hb hts iX4 hown hK.1 hP 0 rfl rfl 9 (by decide) (hts (.fieldLink RX4 29 "CloseClocksModel" "fastTicks" "[I") (by decide +kernel)) (fun _ h9 => h9) rfl dX4_tick_101 ?_
                refine lv_iload_n hx hb dX4_tick_104 rfl (lv_at hl 1 rfl) ?_
                refine lv_dup2_11 hx hb dX4_tick_105 rfl rfl ?_
                refine kx_iald (k := v) hx hb hK hP 7 rfl (by omega) (by omega) (by decide) dX4_tick_106 ?_
                refine lv_aload_n hx hb dX4_tick_107 rfl (lv_at hl 0 rfl) ?_
                refine va_get (D := D) (ci := 4) (v := .ref m8) (C := RX4) (T := TX4) (N := 39) hx hb hts iX4 hown hK.1 hP 0 rfl rfl 8 (by decide) (hts (.fieldLink RX4 25 "CloseClocksModel" "isFast" "[Z") (by decide +kernel)) (fun _ h9 => h9) rfl dX4_tick_108 ?_
                refine lv_iload_n hx hb dX4_tick_111 rfl (lv_at hl 1 rfl) ?_
                refine kx_zald (k := v) hx hb hK hP 6 rfl (by omega) (by omega) (by decide) dX4_tick_112 ?_
                refine kx_top (b := x) (up_s _ _ _) ?_
                refine kx_if_eq (tgt := 120) hx hb (by omega) dX4_tick_113 (by decide) (fun h113 => ?_) (fun h113 => ?_)
                · skip
                  refine kx_const (z := 0) hx hb dX4_tick_120 rfl ?_
                  exact J121_2 0 (by first | assumption | omega) H locs hP hD hS ls (lv_sub hl [0, 1] rfl)
                · skip
                  refine kx_const (z := 1) hx hb dX4_tick_116 rfl ?_
                  refine lv_goto (tgt := 121) hx hb dX4_tick_117 (by decide) ?_
                  exact J121_2 1 (by first | assumption | omega) H locs hP hD hS ls (lv_sub hl [0, 1] rfl)
              refine lv_aload_n hx hb dX4_tick_61 rfl (lv_at hl 0 rfl) ?_
              refine va_get (D := D) (ci := 4) (v := .ref m8) (C := RX4) (T := TX4) (N := 39) hx hb hts iX4 hown hK.1 hP 0 rfl rfl 8 (by decide) (hts (.fieldLink RX4 25 "CloseClocksModel" "isFast" "[Z") (by decide +kernel)) (fun _ h9 => h9) rfl dX4_tick_62 ?_
              refine lv_iload_n hx hb dX4_tick_65 rfl (lv_at hl 1 rfl) ?_
              refine lv_aload_n hx hb dX4_tick_66 rfl (lv_at hl 0 rfl) ?_
              refine va_get (D := D) (ci := 4) (v := .ref m22) (C := RX4) (T := TX4) (N := 39) hx hb hts iX4 hown hK.1 hP 0 rfl rfl 22 (by decide) (hts (.fieldLink RX4 42 "CloseClocksModel" "turnOf" "[I") (by decide +kernel)) (fun _ h9 => h9) rfl dX4_tick_67 ?_
              refine lv_iload_n hx hb dX4_tick_70 rfl (lv_at hl 1 rfl) ?_
              refine kx_iald (k := v) hx hb hK hP 9 rfl (by omega) (by omega) (by decide) dX4_tick_71 ?_
              refine kx_const (z := 1) hx hb dX4_tick_72 rfl ?_
              refine kx_icmp_eq (tgt := 94) hx hb (by omega) (by omega) dX4_tick_73 (by decide) (fun h73 => ?_) (fun h73 => ?_)
              · skip
                refine kx_const (z := 1) hx hb dX4_tick_94 rfl ?_
                refine lv_goto (tgt := 99) hx hb dX4_tick_95 (by decide) ?_
                exact J99_1 1 (by rw [mFa]; first | (rw [if_pos (by omega)]) | (rw [if_neg (by omega)])) (by first | assumption | omega) H locs hP hD hS ls (lv_sub hl [0, 1] rfl)
              · skip
                refine lv_aload_n hx hb dX4_tick_76 rfl (lv_at hl 0 rfl) ?_
                refine va_get (D := D) (ci := 4) (v := .ref m22) (C := RX4) (T := TX4) (N := 39) hx hb hts iX4 hown hK.1 hP 0 rfl rfl 22 (by decide) (hts (.fieldLink RX4 42 "CloseClocksModel" "turnOf" "[I") (by decide +kernel)) (fun _ h9 => h9) rfl dX4_tick_77 ?_
                refine lv_iload_n hx hb dX4_tick_80 rfl (lv_at hl 1 rfl) ?_
                refine kx_iald (k := v) hx hb hK hP 9 rfl (by omega) (by omega) (by decide) dX4_tick_81 ?_
                refine kx_if_ne (tgt := 98) hx hb (by omega) dX4_tick_82 (by decide) (fun h82 => ?_) (fun h82 => ?_)
                · skip
                  refine kx_const (z := 0) hx hb dX4_tick_98 rfl ?_
                  exact J99_1 0 (by rw [mFa]; first | (rw [if_pos (by omega)]) | (rw [if_neg (by omega)])) (by first | assumption | omega) H locs hP hD hS ls (lv_sub hl [0, 1] rfl)
                · skip
                  refine lv_aload_n hx hb dX4_tick_85 rfl (lv_at hl 0 rfl) ?_
                  refine va_get (D := D) (ci := 4) (v := .ref m8) (C := RX4) (T := TX4) (N := 39) hx hb hts iX4 hown hK.1 hP 0 rfl rfl 8 (by decide) (hts (.fieldLink RX4 25 "CloseClocksModel" "isFast" "[Z") (by decide +kernel)) (fun _ h9 => h9) rfl dX4_tick_86 ?_
                  refine lv_iload_n hx hb dX4_tick_89 rfl (lv_at hl 1 rfl) ?_
                  refine kx_zald (k := v) hx hb hK hP 6 rfl (by omega) (by omega) (by decide) dX4_tick_90 ?_
                  refine kx_if_eq (tgt := 98) hx hb (by omega) dX4_tick_91 (by decide) (fun h91 => ?_) (fun h91 => ?_)
                  · skip
                    refine kx_const (z := 0) hx hb dX4_tick_98 rfl ?_
                    exact J99_1 0 (by rw [mFa]; first | (rw [if_pos (by omega)]) | (rw [if_neg (by omega)])) (by first | assumption | omega) H locs hP hD hS ls (lv_sub hl [0, 1] rfl)
                  · skip
                    refine kx_const (z := 1) hx hb dX4_tick_94 rfl ?_
                    refine lv_goto (tgt := 99) hx hb dX4_tick_95 (by decide) ?_
                    exact J99_1 1 (by rw [mFa]; first | (rw [if_pos (by omega)]) | (rw [if_neg (by omega)])) (by first | assumption | omega) H locs hP hD hS ls (lv_sub hl [0, 1] rfl)
        exact L53 (nd.toNat - 0 + 1) 0 fa ft ck (by first | assumption | omega) (mix_0) (mix_0) (fun k _ => by rw [if_neg (by omega)]) (Nat.lt_succ_self _) H locs hP hD hS ls (lv_sub hl [1, 0] rfl)
      · skip
        have J44_4 : ∀ (x : Int), (x = (mTu ck dl er nd st) v) → ∀ (H : Heap) (locs : List Loc), va_P D vwCl (mdW cI cZ h m1 m4 m5 m6 m7 m8 m9 m21 m22 m23 m24 m25 m26 m30 m31 m32 m33 m34 m35 pl nd lk st bo ti te nr ml nn nl du nO nT wm wb ik kt kl hh pg dl er ra ck fa ft nw g tc tr tf tt kc kr ke kd kf kg) H → va_D A (mdW cI cZ h m1 m4 m5 m6 m7 m8 m9 m21 m22 m23 m24 m25 m26 m30 m31 m32 m33 m34 m35 pl nd lk st bo ti te nr ml nn nl du nO nT wm wb ik kt kl hh pg dl er ra ck fa ft nw g tc tr tf tt kc kr ke kd kf kg) → va_S A H0 H locs → ∀ ls : Array Slot, lv_has ls 3 [(0, .ref h), (1, .int (iI (v : Int)))] → W pr l en rm_X4_tick s mi args below meth co H locs 0 0 Q (F0 mi 44 ls [.int (iI x), .int (iI (v : Int)), .ref m22]) := by
          intro x hx9 H locs hP hD hS ls hl
          refine kx_iast (k := v) (x := x) hx hb hK hP hD hS 9 rfl (by omega) (by omega) (by decide) dX4_tick_44 (fun H locs hP hD hS => ?_)
          have hP : va_P D vwCl (mdW cI cZ h m1 m4 m5 m6 m7 m8 m9 m21 m22 m23 m24 m25 m26 m30 m31 m32 m33 m34 m35 pl nd lk st bo ti te nr ml nn nl du nO nT wm wb ik kt kl hh pg dl er ra ck fa ft nw (va_up g v x) tc tr tf tt kc kr ke kd kf kg) H := hP
          have hD : va_D A (mdW cI cZ h m1 m4 m5 m6 m7 m8 m9 m21 m22 m23 m24 m25 m26 m30 m31 m32 m33 m34 m35 pl nd lk st bo ti te nr ml nn nl du nO nT wm wb ik kt kl hh pg dl er ra ck fa ft nw (va_up g v x) tc tr tf tt kc kr ke kd kf kg) := hD
          refine kx_iinc (z := ((v + 1 : Nat) : Int)) (lv' := [(1, .int (iI ((v + 1 : Nat) : Int))), (0, .ref h)]) hx hb dX4_tick_45 hl (k0 := 1) rfl (by omega) (by decide) rfl (fun ls hl => ?_)
          refine lv_goto (tgt := 2) hx hb dX4_tick_48 (by decide) ?_
          exact ih2 (v + 1) (va_up g v x) (by first | assumption | omega) (up_lt hg hx9) (by omega) H locs hP hD hS ls (lv_sub hl [1, 0] rfl)
        refine lv_aload_n hx hb dX4_tick_10 rfl (lv_at hl 0 rfl) ?_
        refine va_get (D := D) (ci := 4) (v := .ref m22) (C := RX4) (T := TX4) (N := 39) hx hb hts iX4 hown hK.1 hP 0 rfl rfl 22 (by decide) (hts (.fieldLink RX4 42 "CloseClocksModel" "turnOf" "[I") (by decide +kernel)) (fun _ h9 => h9) rfl dX4_tick_11 ?_
        refine lv_iload_n hx hb dX4_tick_14 rfl (lv_at hl 1 rfl) ?_
        refine lv_aload_n hx hb dX4_tick_15 rfl (lv_at hl 0 rfl) ?_
        refine lv_iload_n hx hb dX4_tick_16 rfl (lv_at hl 1 rfl) ?_
        have hub := mUp_bd (st := st) (ah := (mOf ck dl er nd 1 v nd.toNat)) (be := (mOf ck dl er nd 0 v nd.toNat)) hst (by have := mOf_rng (a := 0) (v := v) hck her hdl hnd nd.toNat; omega)
        have hdb := mDn_bd (st := st) (ah := (mOf ck dl er nd 1 v nd.toNat)) (be := (mOf ck dl er nd 0 v nd.toNat)) hst (by have := mOf_rng (a := 1) (v := v) hck her hdl hnd nd.toNat; omega)
        refine kx_cV (As := [.int (iI (v : Int))]) (rest := [.int (iI (v : Int)), .ref m22]) (st1 := [.int (iI (mUp st (mOf ck dl er nd 1 v nd.toNat) (mOf ck dl er nd 0 v nd.toNat))), .int (iI (v : Int)), .ref m22]) (q0 := 0) (ci := 4) ⟨hx, hb, hml, hown, hts⟩ (c_X4_upOf l D cI cZ h m1 m4 m5 m6 m7 m8 m9 m21 m22 m23 m24 m25 m26 m30 m31 m32 m33 m34 m35 pl nd lk st bo ti te nr ml nn nl du nO nT wm wb ik kt kl hh pg dl er ra ck fa ft nw g tc tr tf tt kc kr ke kd kf kg v (by first | assumption | omega) (by first | assumption | omega) (by first | assumption | omega) (by first | assumption | omega) (by first | assumption | omega) (by first | assumption | omega)) (cwV 1 hts gX4_tick_X4_upOf rfl rfl rfl (by decide +kernel) ⟨Nat.le_of_ble_eq_true rfl, Nat.le_of_ble_eq_true rfl⟩) hK hP rfl rfl rfl hl.1 rfl (Nat.le_of_ble_eq_true rfl) dX4_tick_17 ⟨Nat.zero_le _, Nat.zero_le _⟩ rfl ?_
        refine kx_ldc (z := -100000001) hx hb hown (hts (.constant RX4 96 (-100000001)) (by decide +kernel)) dX4_tick_20 (by decide) ?_
        refine kx_icmp_eq (tgt := 29) hx hb (by omega) (by omega) dX4_tick_22 (by decide) (fun h22 => ?_) (fun h22 => ?_)
        · skip
          refine lv_aload_n hx hb dX4_tick_29 rfl (lv_at hl 0 rfl) ?_
          refine lv_iload_n hx hb dX4_tick_30 rfl (lv_at hl 1 rfl) ?_
          refine kx_cV (As := [.int (iI (v : Int))]) (rest := [.int (iI (v : Int)), .ref m22]) (st1 := [.int (iI (mDn st (mOf ck dl er nd 1 v nd.toNat) (mOf ck dl er nd 0 v nd.toNat))), .int (iI (v : Int)), .ref m22]) (q0 := 0) (ci := 4) ⟨hx, hb, hml, hown, hts⟩ (c_X4_downOf l D cI cZ h m1 m4 m5 m6 m7 m8 m9 m21 m22 m23 m24 m25 m26 m30 m31 m32 m33 m34 m35 pl nd lk st bo ti te nr ml nn nl du nO nT wm wb ik kt kl hh pg dl er ra ck fa ft nw g tc tr tf tt kc kr ke kd kf kg v (by first | assumption | omega) (by first | assumption | omega) (by first | assumption | omega) (by first | assumption | omega) (by first | assumption | omega) (by first | assumption | omega)) (cwV 1 hts gX4_tick_X4_downOf rfl rfl rfl (by decide +kernel) ⟨Nat.le_of_ble_eq_true rfl, Nat.le_of_ble_eq_true rfl⟩) hK hP rfl rfl rfl hl.1 rfl (Nat.le_of_ble_eq_true rfl) dX4_tick_31 ⟨Nat.zero_le _, Nat.zero_le _⟩ rfl ?_
          refine kx_ldc (z := -100000001) hx hb hown (hts (.constant RX4 96 (-100000001)) (by decide +kernel)) dX4_tick_34 (by decide) ?_
          refine kx_icmp_eq (tgt := 43) hx hb (by omega) (by omega) dX4_tick_36 (by decide) (fun h36 => ?_) (fun h36 => ?_)
          · skip
            refine kx_const (z := 0) hx hb dX4_tick_43 rfl ?_
            exact J44_4 0 (by rw [mTu]; first | (rw [if_pos h22]) | (rw [if_neg (by omega), if_pos h36]) | (rw [if_neg (by omega), if_neg (by omega)])) H locs hP hD hS ls (lv_sub hl [0, 1] rfl)
          · skip
            refine kx_const (z := -1) hx hb dX4_tick_39 rfl ?_
            refine lv_goto (tgt := 44) hx hb dX4_tick_40 (by decide) ?_
            exact J44_4 (-1) (by rw [mTu]; first | (rw [if_pos h22]) | (rw [if_neg (by omega), if_pos h36]) | (rw [if_neg (by omega), if_neg (by omega)])) H locs hP hD hS ls (lv_sub hl [0, 1] rfl)
        · skip
          refine kx_const (z := 1) hx hb dX4_tick_25 rfl ?_
          refine lv_goto (tgt := 44) hx hb dX4_tick_26 (by decide) ?_
          exact J44_4 1 (by rw [mTu]; first | (rw [if_pos h22]) | (rw [if_neg (by omega), if_pos h36]) | (rw [if_neg (by omega), if_neg (by omega)])) H locs hP hD hS ls (lv_sub hl [0, 1] rfl)
  exact L2 (nd.toNat - 0 + 1) 0 tu (by first | assumption | omega) (fun k hk => absurd hk (Nat.not_lt_zero k)) (Nat.lt_succ_self _) H locs hP hD hS ls (lv_sub hl [1, 0] rfl)
end
