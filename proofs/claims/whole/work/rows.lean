section
-- ===== PART A: goes FIRST, ahead of the names: the tables' words, and 'selects' of the private methods out of them =====
/-- a private method of a class that the tables say can be made, by its rows of tables_1 -/
def lw_okq (q : MethodName × Nat) : Prop := (q.1.cls ≠ "java/lang/invoke/MethodHandle" ∧ q.1.cls ≠ "java/lang/invoke/VarHandle") ∧ Cond.instantiable q.1.cls q.2 ∈ tables_1 ∧ Cond.privateMethod q.1 ∈ tables_1 ∧ Cond.instanceMethod q.1 ∈ tables_1
theorem lw_p0 : lw_okq (⟨"ShutBench$Reader", "sum", "(I)V"⟩, 6) := ⟨⟨by decide +kernel, by decide +kernel⟩, List.mem_of_getElem? (i := 25) (by decide +kernel), List.mem_of_getElem? (i := 259) (by decide +kernel), List.mem_of_getElem? (i := 260) (by decide +kernel)⟩
theorem lw_p1 : lw_okq (⟨"ShutBench$Reader", "term", "(I)V"⟩, 6) := ⟨⟨by decide +kernel, by decide +kernel⟩, List.mem_of_getElem? (i := 25) (by decide +kernel), List.mem_of_getElem? (i := 263) (by decide +kernel), List.mem_of_getElem? (i := 264) (by decide +kernel)⟩
theorem lw_p2 : lw_okq (⟨"ShutBench$Reader", "power", "(I)V"⟩, 6) := ⟨⟨by decide +kernel, by decide +kernel⟩, List.mem_of_getElem? (i := 25) (by decide +kernel), List.mem_of_getElem? (i := 267) (by decide +kernel), List.mem_of_getElem? (i := 268) (by decide +kernel)⟩
theorem lw_p3 : lw_okq (⟨"ShutBench$Reader", "sign", "()I"⟩, 6) := ⟨⟨by decide +kernel, by decide +kernel⟩, List.mem_of_getElem? (i := 25) (by decide +kernel), List.mem_of_getElem? (i := 271) (by decide +kernel), List.mem_of_getElem? (i := 272) (by decide +kernel)⟩
theorem lw_p4 : lw_okq (⟨"ShutBench$Reader", "meet", "()Z"⟩, 6) := ⟨⟨by decide +kernel, by decide +kernel⟩, List.mem_of_getElem? (i := 25) (by decide +kernel), List.mem_of_getElem? (i := 279) (by decide +kernel), List.mem_of_getElem? (i := 280) (by decide +kernel)⟩
theorem lw_p5 : lw_okq (⟨"ShutBench$Reader", "refuse", "(I)V"⟩, 6) := ⟨⟨by decide +kernel, by decide +kernel⟩, List.mem_of_getElem? (i := 25) (by decide +kernel), List.mem_of_getElem? (i := 283) (by decide +kernel), List.mem_of_getElem? (i := 284) (by decide +kernel)⟩
theorem lw_p6 : lw_okq (⟨"ShutBench$Reader", "piece", "(I)V"⟩, 6) := ⟨⟨by decide +kernel, by decide +kernel⟩, List.mem_of_getElem? (i := 25) (by decide +kernel), List.mem_of_getElem? (i := 287) (by decide +kernel), List.mem_of_getElem? (i := 288) (by decide +kernel)⟩
theorem lw_p7 : lw_okq (⟨"ShutBench$Reader", "word", "()I"⟩, 6) := ⟨⟨by decide +kernel, by decide +kernel⟩, List.mem_of_getElem? (i := 25) (by decide +kernel), List.mem_of_getElem? (i := 291) (by decide +kernel), List.mem_of_getElem? (i := 292) (by decide +kernel)⟩
theorem lw_p8 : lw_okq (⟨"ShutBench$Reader", "kindOf", "(I)I"⟩, 6) := ⟨⟨by decide +kernel, by decide +kernel⟩, List.mem_of_getElem? (i := 25) (by decide +kernel), List.mem_of_getElem? (i := 301) (by decide +kernel), List.mem_of_getElem? (i := 302) (by decide +kernel)⟩
theorem lw_p9 : lw_okq (⟨"ShutBench$Reader", "isNumber", "(I)Z"⟩, 6) := ⟨⟨by decide +kernel, by decide +kernel⟩, List.mem_of_getElem? (i := 25) (by decide +kernel), List.mem_of_getElem? (i := 305) (by decide +kernel), List.mem_of_getElem? (i := 306) (by decide +kernel)⟩
theorem lw_p10 : lw_okq (⟨"ShutBench$Reader", "isWord", "(ILjava/lang/String;)Z"⟩, 6) := ⟨⟨by decide +kernel, by decide +kernel⟩, List.mem_of_getElem? (i := 25) (by decide +kernel), List.mem_of_getElem? (i := 310) (by decide +kernel), List.mem_of_getElem? (i := 311) (by decide +kernel)⟩
theorem lw_p11 : lw_okq (⟨"ShutBench$Reader", "curveNumber", "()I"⟩, 6) := ⟨⟨by decide +kernel, by decide +kernel⟩, List.mem_of_getElem? (i := 25) (by decide +kernel), List.mem_of_getElem? (i := 362) (by decide +kernel), List.mem_of_getElem? (i := 363) (by decide +kernel)⟩
theorem lw_p12 : lw_okq (⟨"ShutBench$Reader", "nameOf", "(I)I"⟩, 6) := ⟨⟨by decide +kernel, by decide +kernel⟩, List.mem_of_getElem? (i := 25) (by decide +kernel), List.mem_of_getElem? (i := 366) (by decide +kernel), List.mem_of_getElem? (i := 367) (by decide +kernel)⟩
theorem lw_p13 : lw_okq (⟨"ShutBench$Reader", "emit", "(IJI)V"⟩, 6) := ⟨⟨by decide +kernel, by decide +kernel⟩, List.mem_of_getElem? (i := 25) (by decide +kernel), List.mem_of_getElem? (i := 378) (by decide +kernel), List.mem_of_getElem? (i := 379) (by decide +kernel)⟩
theorem lw_p14 : lw_okq (⟨"ShutBench$Reader", "number", "(I)J"⟩, 6) := ⟨⟨by decide +kernel, by decide +kernel⟩, List.mem_of_getElem? (i := 25) (by decide +kernel), List.mem_of_getElem? (i := 386) (by decide +kernel), List.mem_of_getElem? (i := 387) (by decide +kernel)⟩
theorem lw_p15 : lw_okq (⟨"ShutBench$Reader", "pass", "(I)V"⟩, 6) := ⟨⟨by decide +kernel, by decide +kernel⟩, List.mem_of_getElem? (i := 25) (by decide +kernel), List.mem_of_getElem? (i := 401) (by decide +kernel), List.mem_of_getElem? (i := 402) (by decide +kernel)⟩
def lw_privs_1 : List (MethodName × Nat) := [(⟨"ShutBench$Reader", "sum", "(I)V"⟩, 6), (⟨"ShutBench$Reader", "term", "(I)V"⟩, 6), (⟨"ShutBench$Reader", "power", "(I)V"⟩, 6), (⟨"ShutBench$Reader", "sign", "()I"⟩, 6), (⟨"ShutBench$Reader", "meet", "()Z"⟩, 6), (⟨"ShutBench$Reader", "refuse", "(I)V"⟩, 6), (⟨"ShutBench$Reader", "piece", "(I)V"⟩, 6), (⟨"ShutBench$Reader", "word", "()I"⟩, 6), (⟨"ShutBench$Reader", "kindOf", "(I)I"⟩, 6), (⟨"ShutBench$Reader", "isNumber", "(I)Z"⟩, 6), (⟨"ShutBench$Reader", "isWord", "(ILjava/lang/String;)Z"⟩, 6), (⟨"ShutBench$Reader", "curveNumber", "()I"⟩, 6), (⟨"ShutBench$Reader", "nameOf", "(I)I"⟩, 6), (⟨"ShutBench$Reader", "emit", "(IJI)V"⟩, 6), (⟨"ShutBench$Reader", "number", "(I)J"⟩, 6), (⟨"ShutBench$Reader", "pass", "(I)V"⟩, 6)]
theorem lw_r1 : ∀ q ∈ lw_privs_1, lw_okq q := List.forall_mem_cons.mpr ⟨lw_p0, List.forall_mem_cons.mpr ⟨lw_p1, List.forall_mem_cons.mpr ⟨lw_p2, List.forall_mem_cons.mpr ⟨lw_p3, List.forall_mem_cons.mpr ⟨lw_p4, List.forall_mem_cons.mpr ⟨lw_p5, List.forall_mem_cons.mpr ⟨lw_p6, List.forall_mem_cons.mpr ⟨lw_p7, List.forall_mem_cons.mpr ⟨lw_p8, List.forall_mem_cons.mpr ⟨lw_p9, List.forall_mem_cons.mpr ⟨lw_p10, List.forall_mem_cons.mpr ⟨lw_p11, List.forall_mem_cons.mpr ⟨lw_p12, List.forall_mem_cons.mpr ⟨lw_p13, List.forall_mem_cons.mpr ⟨lw_p14, List.forall_mem_cons.mpr ⟨lw_p15, fun _ h => absurd h List.not_mem_nil⟩⟩⟩⟩⟩⟩⟩⟩⟩⟩⟩⟩⟩⟩⟩⟩
theorem lw_p16 : lw_okq (⟨"ShutBench$Reader", "inside", "(I)V"⟩, 6) := ⟨⟨by decide +kernel, by decide +kernel⟩, List.mem_of_getElem? (i := 25) (by decide +kernel), List.mem_of_getElem? (i := 405) (by decide +kernel), List.mem_of_getElem? (i := 406) (by decide +kernel)⟩
theorem lw_p17 : lw_okq (⟨"ShutBench$Gauge", "degreeOf", "(LShutBench$Curve;I)I"⟩, 10) := ⟨⟨by decide +kernel, by decide +kernel⟩, List.mem_of_getElem? (i := 104) (by decide +kernel), List.mem_of_getElem? (i := 422) (by decide +kernel), List.mem_of_getElem? (i := 423) (by decide +kernel)⟩
theorem lw_p18 : lw_okq (⟨"ShutBench$Gauge", "degreeAt", "(I)I"⟩, 10) := ⟨⟨by decide +kernel, by decide +kernel⟩, List.mem_of_getElem? (i := 104) (by decide +kernel), List.mem_of_getElem? (i := 430) (by decide +kernel), List.mem_of_getElem? (i := 431) (by decide +kernel)⟩
theorem lw_p19 : lw_okq (⟨"ShutBench$Gauge", "valueOf", "(LShutBench$Curve;I)J"⟩, 10) := ⟨⟨by decide +kernel, by decide +kernel⟩, List.mem_of_getElem? (i := 104) (by decide +kernel), List.mem_of_getElem? (i := 471) (by decide +kernel), List.mem_of_getElem? (i := 472) (by decide +kernel)⟩
theorem lw_p20 : lw_okq (⟨"ShutBench$Gauge", "leanOf", "(LShutBench$Curve;I)J"⟩, 10) := ⟨⟨by decide +kernel, by decide +kernel⟩, List.mem_of_getElem? (i := 104) (by decide +kernel), List.mem_of_getElem? (i := 581) (by decide +kernel), List.mem_of_getElem? (i := 582) (by decide +kernel)⟩
theorem lw_p21 : lw_okq (⟨"ShutBench", "tell", "(J)I"⟩, 8) := ⟨⟨by decide +kernel, by decide +kernel⟩, List.mem_of_getElem? (i := 17) (by decide +kernel), List.mem_of_getElem? (i := 604) (by decide +kernel), List.mem_of_getElem? (i := 605) (by decide +kernel)⟩
theorem lw_p22 : lw_okq (⟨"ShutBench$Halver", "sumPart", "(LShutBench$Gauge;IIII)Z"⟩, 7) := ⟨⟨by decide +kernel, by decide +kernel⟩, List.mem_of_getElem? (i := 149) (by decide +kernel), List.mem_of_getElem? (i := 627) (by decide +kernel), List.mem_of_getElem? (i := 628) (by decide +kernel)⟩
theorem lw_p23 : lw_okq (⟨"ShutBench$Halver", "keep", "(IIIJJ)V"⟩, 7) := ⟨⟨by decide +kernel, by decide +kernel⟩, List.mem_of_getElem? (i := 149) (by decide +kernel), List.mem_of_getElem? (i := 639) (by decide +kernel), List.mem_of_getElem? (i := 640) (by decide +kernel)⟩
theorem lw_p24 : lw_okq (⟨"ShutBench$Halver", "widest", "()I"⟩, 7) := ⟨⟨by decide +kernel, by decide +kernel⟩, List.mem_of_getElem? (i := 149) (by decide +kernel), List.mem_of_getElem? (i := 643) (by decide +kernel), List.mem_of_getElem? (i := 644) (by decide +kernel)⟩
theorem lw_p25 : lw_okq (⟨"ShutBench$Halver", "canHalve", "(I)Z"⟩, 7) := ⟨⟨by decide +kernel, by decide +kernel⟩, List.mem_of_getElem? (i := 149) (by decide +kernel), List.mem_of_getElem? (i := 647) (by decide +kernel), List.mem_of_getElem? (i := 648) (by decide +kernel)⟩
theorem lw_p26 : lw_okq (⟨"ShutBench", "tellHalved", "(ZZ)I"⟩, 8) := ⟨⟨by decide +kernel, by decide +kernel⟩, List.mem_of_getElem? (i := 17) (by decide +kernel), List.mem_of_getElem? (i := 654) (by decide +kernel), List.mem_of_getElem? (i := 655) (by decide +kernel)⟩
theorem lw_p27 : lw_okq (⟨"ShutBench$Walker", "await", "(I)V"⟩, 8) := ⟨⟨by decide +kernel, by decide +kernel⟩, List.mem_of_getElem? (i := 180) (by decide +kernel), List.mem_of_getElem? (i := 666) (by decide +kernel), List.mem_of_getElem? (i := 667) (by decide +kernel)⟩
theorem lw_p28 : lw_okq (⟨"ShutBench$Walker", "firstEnd", "()I"⟩, 8) := ⟨⟨by decide +kernel, by decide +kernel⟩, List.mem_of_getElem? (i := 180) (by decide +kernel), List.mem_of_getElem? (i := 671) (by decide +kernel), List.mem_of_getElem? (i := 672) (by decide +kernel)⟩
theorem lw_p29 : lw_okq (⟨"ShutBench$Walker", "keep", "(III)V"⟩, 8) := ⟨⟨by decide +kernel, by decide +kernel⟩, List.mem_of_getElem? (i := 180) (by decide +kernel), List.mem_of_getElem? (i := 682) (by decide +kernel), List.mem_of_getElem? (i := 683) (by decide +kernel)⟩
theorem lw_p30 : lw_okq (⟨"ShutBench$Halver", "sinkPart", "(LShutBench$Gauge;IIIIZ)Z"⟩, 7) := ⟨⟨by decide +kernel, by decide +kernel⟩, List.mem_of_getElem? (i := 149) (by decide +kernel), List.mem_of_getElem? (i := 702) (by decide +kernel), List.mem_of_getElem? (i := 703) (by decide +kernel)⟩
theorem lw_p31 : lw_okq (⟨"ShutBench$Halver", "deepest", "()I"⟩, 7) := ⟨⟨by decide +kernel, by decide +kernel⟩, List.mem_of_getElem? (i := 149) (by decide +kernel), List.mem_of_getElem? (i := 708) (by decide +kernel), List.mem_of_getElem? (i := 709) (by decide +kernel)⟩
def lw_privs_2 : List (MethodName × Nat) := [(⟨"ShutBench$Reader", "inside", "(I)V"⟩, 6), (⟨"ShutBench$Gauge", "degreeOf", "(LShutBench$Curve;I)I"⟩, 10), (⟨"ShutBench$Gauge", "degreeAt", "(I)I"⟩, 10), (⟨"ShutBench$Gauge", "valueOf", "(LShutBench$Curve;I)J"⟩, 10), (⟨"ShutBench$Gauge", "leanOf", "(LShutBench$Curve;I)J"⟩, 10), (⟨"ShutBench", "tell", "(J)I"⟩, 8), (⟨"ShutBench$Halver", "sumPart", "(LShutBench$Gauge;IIII)Z"⟩, 7), (⟨"ShutBench$Halver", "keep", "(IIIJJ)V"⟩, 7), (⟨"ShutBench$Halver", "widest", "()I"⟩, 7), (⟨"ShutBench$Halver", "canHalve", "(I)Z"⟩, 7), (⟨"ShutBench", "tellHalved", "(ZZ)I"⟩, 8), (⟨"ShutBench$Walker", "await", "(I)V"⟩, 8), (⟨"ShutBench$Walker", "firstEnd", "()I"⟩, 8), (⟨"ShutBench$Walker", "keep", "(III)V"⟩, 8), (⟨"ShutBench$Halver", "sinkPart", "(LShutBench$Gauge;IIIIZ)Z"⟩, 7), (⟨"ShutBench$Halver", "deepest", "()I"⟩, 7)]
theorem lw_r2 : ∀ q ∈ lw_privs_2, lw_okq q := List.forall_mem_cons.mpr ⟨lw_p16, List.forall_mem_cons.mpr ⟨lw_p17, List.forall_mem_cons.mpr ⟨lw_p18, List.forall_mem_cons.mpr ⟨lw_p19, List.forall_mem_cons.mpr ⟨lw_p20, List.forall_mem_cons.mpr ⟨lw_p21, List.forall_mem_cons.mpr ⟨lw_p22, List.forall_mem_cons.mpr ⟨lw_p23, List.forall_mem_cons.mpr ⟨lw_p24, List.forall_mem_cons.mpr ⟨lw_p25, List.forall_mem_cons.mpr ⟨lw_p26, List.forall_mem_cons.mpr ⟨lw_p27, List.forall_mem_cons.mpr ⟨lw_p28, List.forall_mem_cons.mpr ⟨lw_p29, List.forall_mem_cons.mpr ⟨lw_p30, List.forall_mem_cons.mpr ⟨lw_p31, fun _ h => absurd h List.not_mem_nil⟩⟩⟩⟩⟩⟩⟩⟩⟩⟩⟩⟩⟩⟩⟩⟩
theorem lw_p32 : lw_okq (⟨"ShutBench$Walker", "breaks", "(LShutBench$Gauge;IIII)Z"⟩, 8) := ⟨⟨by decide +kernel, by decide +kernel⟩, List.mem_of_getElem? (i := 180) (by decide +kernel), List.mem_of_getElem? (i := 728) (by decide +kernel), List.mem_of_getElem? (i := 729) (by decide +kernel)⟩
theorem lw_p33 : lw_okq (⟨"ShutBench$Walker", "breaksAt", "(LShutBench$Gauge;III)Z"⟩, 8) := ⟨⟨by decide +kernel, by decide +kernel⟩, List.mem_of_getElem? (i := 180) (by decide +kernel), List.mem_of_getElem? (i := 732) (by decide +kernel), List.mem_of_getElem? (i := 733) (by decide +kernel)⟩
theorem lw_p34 : lw_okq (⟨"ShutBenchModel", "put", "(I)V"⟩, 44) := ⟨⟨by decide +kernel, by decide +kernel⟩, List.mem_of_getElem? (i := 750) (by decide +kernel), List.mem_of_getElem? (i := 893) (by decide +kernel), List.mem_of_getElem? (i := 894) (by decide +kernel)⟩
theorem lw_p35 : lw_okq (⟨"ShutBenchModel", "sum", "()I"⟩, 44) := ⟨⟨by decide +kernel, by decide +kernel⟩, List.mem_of_getElem? (i := 750) (by decide +kernel), List.mem_of_getElem? (i := 905) (by decide +kernel), List.mem_of_getElem? (i := 906) (by decide +kernel)⟩
theorem lw_p36 : lw_okq (⟨"ShutBenchModel", "term", "()I"⟩, 44) := ⟨⟨by decide +kernel, by decide +kernel⟩, List.mem_of_getElem? (i := 750) (by decide +kernel), List.mem_of_getElem? (i := 909) (by decide +kernel), List.mem_of_getElem? (i := 910) (by decide +kernel)⟩
theorem lw_p37 : lw_okq (⟨"ShutBenchModel", "power", "()I"⟩, 44) := ⟨⟨by decide +kernel, by decide +kernel⟩, List.mem_of_getElem? (i := 750) (by decide +kernel), List.mem_of_getElem? (i := 913) (by decide +kernel), List.mem_of_getElem? (i := 914) (by decide +kernel)⟩
theorem lw_p38 : lw_okq (⟨"ShutBenchModel", "peek", "()I"⟩, 44) := ⟨⟨by decide +kernel, by decide +kernel⟩, List.mem_of_getElem? (i := 750) (by decide +kernel), List.mem_of_getElem? (i := 917) (by decide +kernel), List.mem_of_getElem? (i := 918) (by decide +kernel)⟩
theorem lw_p39 : lw_okq (⟨"ShutBenchModel", "meets", "(I)V"⟩, 44) := ⟨⟨by decide +kernel, by decide +kernel⟩, List.mem_of_getElem? (i := 750) (by decide +kernel), List.mem_of_getElem? (i := 921) (by decide +kernel), List.mem_of_getElem? (i := 922) (by decide +kernel)⟩
theorem lw_p40 : lw_okq (⟨"ShutBenchModel", "fails", "(II)I"⟩, 44) := ⟨⟨by decide +kernel, by decide +kernel⟩, List.mem_of_getElem? (i := 750) (by decide +kernel), List.mem_of_getElem? (i := 925) (by decide +kernel), List.mem_of_getElem? (i := 926) (by decide +kernel)⟩
theorem lw_p41 : lw_okq (⟨"ShutBenchModel", "bad", "()Z"⟩, 44) := ⟨⟨by decide +kernel, by decide +kernel⟩, List.mem_of_getElem? (i := 750) (by decide +kernel), List.mem_of_getElem? (i := 929) (by decide +kernel), List.mem_of_getElem? (i := 930) (by decide +kernel)⟩
theorem lw_p42 : lw_okq (⟨"ShutBenchModel", "part", "()I"⟩, 44) := ⟨⟨by decide +kernel, by decide +kernel⟩, List.mem_of_getElem? (i := 750) (by decide +kernel), List.mem_of_getElem? (i := 933) (by decide +kernel), List.mem_of_getElem? (i := 934) (by decide +kernel)⟩
theorem lw_p43 : lw_okq (⟨"ShutBenchModel", "wordEnd", "()I"⟩, 44) := ⟨⟨by decide +kernel, by decide +kernel⟩, List.mem_of_getElem? (i := 750) (by decide +kernel), List.mem_of_getElem? (i := 937) (by decide +kernel), List.mem_of_getElem? (i := 938) (by decide +kernel)⟩
theorem lw_p44 : lw_okq (⟨"ShutBenchModel", "isDigit", "(I)Z"⟩, 44) := ⟨⟨by decide +kernel, by decide +kernel⟩, List.mem_of_getElem? (i := 750) (by decide +kernel), List.mem_of_getElem? (i := 941) (by decide +kernel), List.mem_of_getElem? (i := 942) (by decide +kernel)⟩
theorem lw_p45 : lw_okq (⟨"ShutBenchModel", "stands", "(Ljava/lang/String;I)Z"⟩, 44) := ⟨⟨by decide +kernel, by decide +kernel⟩, List.mem_of_getElem? (i := 750) (by decide +kernel), List.mem_of_getElem? (i := 946) (by decide +kernel), List.mem_of_getElem? (i := 947) (by decide +kernel)⟩
theorem lw_p46 : lw_okq (⟨"ShutBenchModel", "make", "(III)I"⟩, 44) := ⟨⟨by decide +kernel, by decide +kernel⟩, List.mem_of_getElem? (i := 750) (by decide +kernel), List.mem_of_getElem? (i := 952) (by decide +kernel), List.mem_of_getElem? (i := 953) (by decide +kernel)⟩
theorem lw_p47 : lw_okq (⟨"ShutBenchModel", "isNumber", "(I)Z"⟩, 44) := ⟨⟨by decide +kernel, by decide +kernel⟩, List.mem_of_getElem? (i := 750) (by decide +kernel), List.mem_of_getElem? (i := 956) (by decide +kernel), List.mem_of_getElem? (i := 957) (by decide +kernel)⟩
def lw_privs_3 : List (MethodName × Nat) := [(⟨"ShutBench$Walker", "breaks", "(LShutBench$Gauge;IIII)Z"⟩, 8), (⟨"ShutBench$Walker", "breaksAt", "(LShutBench$Gauge;III)Z"⟩, 8), (⟨"ShutBenchModel", "put", "(I)V"⟩, 44), (⟨"ShutBenchModel", "sum", "()I"⟩, 44), (⟨"ShutBenchModel", "term", "()I"⟩, 44), (⟨"ShutBenchModel", "power", "()I"⟩, 44), (⟨"ShutBenchModel", "peek", "()I"⟩, 44), (⟨"ShutBenchModel", "meets", "(I)V"⟩, 44), (⟨"ShutBenchModel", "fails", "(II)I"⟩, 44), (⟨"ShutBenchModel", "bad", "()Z"⟩, 44), (⟨"ShutBenchModel", "part", "()I"⟩, 44), (⟨"ShutBenchModel", "wordEnd", "()I"⟩, 44), (⟨"ShutBenchModel", "isDigit", "(I)Z"⟩, 44), (⟨"ShutBenchModel", "stands", "(Ljava/lang/String;I)Z"⟩, 44), (⟨"ShutBenchModel", "make", "(III)I"⟩, 44), (⟨"ShutBenchModel", "isNumber", "(I)Z"⟩, 44)]
theorem lw_r3 : ∀ q ∈ lw_privs_3, lw_okq q := List.forall_mem_cons.mpr ⟨lw_p32, List.forall_mem_cons.mpr ⟨lw_p33, List.forall_mem_cons.mpr ⟨lw_p34, List.forall_mem_cons.mpr ⟨lw_p35, List.forall_mem_cons.mpr ⟨lw_p36, List.forall_mem_cons.mpr ⟨lw_p37, List.forall_mem_cons.mpr ⟨lw_p38, List.forall_mem_cons.mpr ⟨lw_p39, List.forall_mem_cons.mpr ⟨lw_p40, List.forall_mem_cons.mpr ⟨lw_p41, List.forall_mem_cons.mpr ⟨lw_p42, List.forall_mem_cons.mpr ⟨lw_p43, List.forall_mem_cons.mpr ⟨lw_p44, List.forall_mem_cons.mpr ⟨lw_p45, List.forall_mem_cons.mpr ⟨lw_p46, List.forall_mem_cons.mpr ⟨lw_p47, fun _ h => absurd h List.not_mem_nil⟩⟩⟩⟩⟩⟩⟩⟩⟩⟩⟩⟩⟩⟩⟩⟩
theorem lw_p48 : lw_okq (⟨"ShutBenchModel", "number", "()I"⟩, 44) := ⟨⟨by decide +kernel, by decide +kernel⟩, List.mem_of_getElem? (i := 750) (by decide +kernel), List.mem_of_getElem? (i := 960) (by decide +kernel), List.mem_of_getElem? (i := 961) (by decide +kernel)⟩
theorem lw_p49 : lw_okq (⟨"ShutBenchModel", "opens", "()V"⟩, 44) := ⟨⟨by decide +kernel, by decide +kernel⟩, List.mem_of_getElem? (i := 750) (by decide +kernel), List.mem_of_getElem? (i := 973) (by decide +kernel), List.mem_of_getElem? (i := 974) (by decide +kernel)⟩
theorem lw_p50 : lw_okq (⟨"ShutBenchModel", "need", "(I)V"⟩, 44) := ⟨⟨by decide +kernel, by decide +kernel⟩, List.mem_of_getElem? (i := 750) (by decide +kernel), List.mem_of_getElem? (i := 977) (by decide +kernel), List.mem_of_getElem? (i := 978) (by decide +kernel)⟩
theorem lw_p51 : lw_okq (⟨"ShutBenchModel", "nameOf", "(I)Ljava/lang/String;"⟩, 44) := ⟨⟨by decide +kernel, by decide +kernel⟩, List.mem_of_getElem? (i := 750) (by decide +kernel), List.mem_of_getElem? (i := 981) (by decide +kernel), List.mem_of_getElem? (i := 982) (by decide +kernel)⟩
theorem lw_p52 : lw_okq (⟨"ShutBenchModel", "named", "(I)I"⟩, 44) := ⟨⟨by decide +kernel, by decide +kernel⟩, List.mem_of_getElem? (i := 750) (by decide +kernel), List.mem_of_getElem? (i := 993) (by decide +kernel), List.mem_of_getElem? (i := 994) (by decide +kernel)⟩
theorem lw_p53 : lw_okq (⟨"ShutBenchModel", "has", "(I)Z"⟩, 44) := ⟨⟨by decide +kernel, by decide +kernel⟩, List.mem_of_getElem? (i := 750) (by decide +kernel), List.mem_of_getElem? (i := 1005) (by decide +kernel), List.mem_of_getElem? (i := 1006) (by decide +kernel)⟩
theorem lw_p54 : lw_okq (⟨"ShutBenchModel", "looks", "(I)V"⟩, 44) := ⟨⟨by decide +kernel, by decide +kernel⟩, List.mem_of_getElem? (i := 750) (by decide +kernel), List.mem_of_getElem? (i := 1009) (by decide +kernel), List.mem_of_getElem? (i := 1010) (by decide +kernel)⟩
theorem lw_p55 : lw_okq (⟨"ShutBenchModel", "shut", "(IJJ)Z"⟩, 44) := ⟨⟨by decide +kernel, by decide +kernel⟩, List.mem_of_getElem? (i := 750) (by decide +kernel), List.mem_of_getElem? (i := 1017) (by decide +kernel), List.mem_of_getElem? (i := 1018) (by decide +kernel)⟩
theorem lw_p56 : lw_okq (⟨"ShutBenchModel", "values", "(IJJ)V"⟩, 44) := ⟨⟨by decide +kernel, by decide +kernel⟩, List.mem_of_getElem? (i := 750) (by decide +kernel), List.mem_of_getElem? (i := 1021) (by decide +kernel), List.mem_of_getElem? (i := 1022) (by decide +kernel)⟩
theorem lw_p57 : lw_okq (⟨"ShutBenchModel", "lastOf", "(I)I"⟩, 44) := ⟨⟨by decide +kernel, by decide +kernel⟩, List.mem_of_getElem? (i := 750) (by decide +kernel), List.mem_of_getElem? (i := 1025) (by decide +kernel), List.mem_of_getElem? (i := 1026) (by decide +kernel)⟩
theorem lw_p58 : lw_okq (⟨"ShutBenchModel", "value", "(IJJ)V"⟩, 44) := ⟨⟨by decide +kernel, by decide +kernel⟩, List.mem_of_getElem? (i := 750) (by decide +kernel), List.mem_of_getElem? (i := 1029) (by decide +kernel), List.mem_of_getElem? (i := 1030) (by decide +kernel)⟩
theorem lw_p59 : lw_okq (⟨"ShutBenchModel", "is", "(JJ)V"⟩, 44) := ⟨⟨by decide +kernel, by decide +kernel⟩, List.mem_of_getElem? (i := 750) (by decide +kernel), List.mem_of_getElem? (i := 1033) (by decide +kernel), List.mem_of_getElem? (i := 1034) (by decide +kernel)⟩
theorem lw_p60 : lw_okq (⟨"ShutBenchModel", "isHole", "()V"⟩, 44) := ⟨⟨by decide +kernel, by decide +kernel⟩, List.mem_of_getElem? (i := 750) (by decide +kernel), List.mem_of_getElem? (i := 1039) (by decide +kernel), List.mem_of_getElem? (i := 1040) (by decide +kernel)⟩
theorem lw_p61 : lw_okq (⟨"ShutBenchModel", "power", "(JJI)V"⟩, 44) := ⟨⟨by decide +kernel, by decide +kernel⟩, List.mem_of_getElem? (i := 750) (by decide +kernel), List.mem_of_getElem? (i := 1043) (by decide +kernel), List.mem_of_getElem? (i := 1044) (by decide +kernel)⟩
theorem lw_p62 : lw_okq (⟨"ShutBenchModel", "size", "(JIZ)J"⟩, 44) := ⟨⟨by decide +kernel, by decide +kernel⟩, List.mem_of_getElem? (i := 750) (by decide +kernel), List.mem_of_getElem? (i := 1047) (by decide +kernel), List.mem_of_getElem? (i := 1048) (by decide +kernel)⟩
theorem lw_p63 : lw_okq (⟨"ShutBenchModel", "times", "(JJJJ)V"⟩, 44) := ⟨⟨by decide +kernel, by decide +kernel⟩, List.mem_of_getElem? (i := 750) (by decide +kernel), List.mem_of_getElem? (i := 1058) (by decide +kernel), List.mem_of_getElem? (i := 1059) (by decide +kernel)⟩
def lw_privs_4 : List (MethodName × Nat) := [(⟨"ShutBenchModel", "number", "()I"⟩, 44), (⟨"ShutBenchModel", "opens", "()V"⟩, 44), (⟨"ShutBenchModel", "need", "(I)V"⟩, 44), (⟨"ShutBenchModel", "nameOf", "(I)Ljava/lang/String;"⟩, 44), (⟨"ShutBenchModel", "named", "(I)I"⟩, 44), (⟨"ShutBenchModel", "has", "(I)Z"⟩, 44), (⟨"ShutBenchModel", "looks", "(I)V"⟩, 44), (⟨"ShutBenchModel", "shut", "(IJJ)Z"⟩, 44), (⟨"ShutBenchModel", "values", "(IJJ)V"⟩, 44), (⟨"ShutBenchModel", "lastOf", "(I)I"⟩, 44), (⟨"ShutBenchModel", "value", "(IJJ)V"⟩, 44), (⟨"ShutBenchModel", "is", "(JJ)V"⟩, 44), (⟨"ShutBenchModel", "isHole", "()V"⟩, 44), (⟨"ShutBenchModel", "power", "(JJI)V"⟩, 44), (⟨"ShutBenchModel", "size", "(JIZ)J"⟩, 44), (⟨"ShutBenchModel", "times", "(JJJJ)V"⟩, 44)]
theorem lw_r4 : ∀ q ∈ lw_privs_4, lw_okq q := List.forall_mem_cons.mpr ⟨lw_p48, List.forall_mem_cons.mpr ⟨lw_p49, List.forall_mem_cons.mpr ⟨lw_p50, List.forall_mem_cons.mpr ⟨lw_p51, List.forall_mem_cons.mpr ⟨lw_p52, List.forall_mem_cons.mpr ⟨lw_p53, List.forall_mem_cons.mpr ⟨lw_p54, List.forall_mem_cons.mpr ⟨lw_p55, List.forall_mem_cons.mpr ⟨lw_p56, List.forall_mem_cons.mpr ⟨lw_p57, List.forall_mem_cons.mpr ⟨lw_p58, List.forall_mem_cons.mpr ⟨lw_p59, List.forall_mem_cons.mpr ⟨lw_p60, List.forall_mem_cons.mpr ⟨lw_p61, List.forall_mem_cons.mpr ⟨lw_p62, List.forall_mem_cons.mpr ⟨lw_p63, fun _ h => absurd h List.not_mem_nil⟩⟩⟩⟩⟩⟩⟩⟩⟩⟩⟩⟩⟩⟩⟩⟩
theorem lw_p64 : lw_okq (⟨"ShutBenchModel", "by", "(JJJJ)V"⟩, 44) := ⟨⟨by decide +kernel, by decide +kernel⟩, List.mem_of_getElem? (i := 750) (by decide +kernel), List.mem_of_getElem? (i := 1062) (by decide +kernel), List.mem_of_getElem? (i := 1063) (by decide +kernel)⟩
theorem lw_p65 : lw_okq (⟨"ShutBenchModel", "root", "(JJ)V"⟩, 44) := ⟨⟨by decide +kernel, by decide +kernel⟩, List.mem_of_getElem? (i := 750) (by decide +kernel), List.mem_of_getElem? (i := 1066) (by decide +kernel), List.mem_of_getElem? (i := 1067) (by decide +kernel)⟩
theorem lw_p66 : lw_okq (⟨"ShutBenchModel", "exp", "(JJ)V"⟩, 44) := ⟨⟨by decide +kernel, by decide +kernel⟩, List.mem_of_getElem? (i := 750) (by decide +kernel), List.mem_of_getElem? (i := 1074) (by decide +kernel), List.mem_of_getElem? (i := 1075) (by decide +kernel)⟩
theorem lw_p67 : lw_okq (⟨"ShutBenchModel", "log", "(JJ)V"⟩, 44) := ⟨⟨by decide +kernel, by decide +kernel⟩, List.mem_of_getElem? (i := 750) (by decide +kernel), List.mem_of_getElem? (i := 1092) (by decide +kernel), List.mem_of_getElem? (i := 1093) (by decide +kernel)⟩
theorem lw_p68 : lw_okq (⟨"ShutBenchModel", "wave", "(JJZ)V"⟩, 44) := ⟨⟨by decide +kernel, by decide +kernel⟩, List.mem_of_getElem? (i := 750) (by decide +kernel), List.mem_of_getElem? (i := 1101) (by decide +kernel), List.mem_of_getElem? (i := 1102) (by decide +kernel)⟩
theorem lw_p69 : lw_okq (⟨"ShutBenchModel", "size", "(JJ)V"⟩, 44) := ⟨⟨by decide +kernel, by decide +kernel⟩, List.mem_of_getElem? (i := 750) (by decide +kernel), List.mem_of_getElem? (i := 1109) (by decide +kernel), List.mem_of_getElem? (i := 1110) (by decide +kernel)⟩
theorem lw_p70 : lw_okq (⟨"ShutBenchModel", "keepValue", "(I)V"⟩, 44) := ⟨⟨by decide +kernel, by decide +kernel⟩, List.mem_of_getElem? (i := 750) (by decide +kernel), List.mem_of_getElem? (i := 1113) (by decide +kernel), List.mem_of_getElem? (i := 1114) (by decide +kernel)⟩
theorem lw_p71 : lw_okq (⟨"ShutBenchModel", "tells", "(ZJJ)I"⟩, 44) := ⟨⟨by decide +kernel, by decide +kernel⟩, List.mem_of_getElem? (i := 750) (by decide +kernel), List.mem_of_getElem? (i := 1117) (by decide +kernel), List.mem_of_getElem? (i := 1118) (by decide +kernel)⟩
theorem lw_p72 : lw_okq (⟨"ShutBenchModel", "shutSlope", "(IJJ)Z"⟩, 44) := ⟨⟨by decide +kernel, by decide +kernel⟩, List.mem_of_getElem? (i := 750) (by decide +kernel), List.mem_of_getElem? (i := 1125) (by decide +kernel), List.mem_of_getElem? (i := 1126) (by decide +kernel)⟩
theorem lw_p73 : lw_okq (⟨"ShutBenchModel", "slopes", "(IJJ)V"⟩, 44) := ⟨⟨by decide +kernel, by decide +kernel⟩, List.mem_of_getElem? (i := 750) (by decide +kernel), List.mem_of_getElem? (i := 1129) (by decide +kernel), List.mem_of_getElem? (i := 1130) (by decide +kernel)⟩
theorem lw_p74 : lw_okq (⟨"ShutBenchModel", "slope", "(I)V"⟩, 44) := ⟨⟨by decide +kernel, by decide +kernel⟩, List.mem_of_getElem? (i := 750) (by decide +kernel), List.mem_of_getElem? (i := 1133) (by decide +kernel), List.mem_of_getElem? (i := 1134) (by decide +kernel)⟩
theorem lw_p75 : lw_okq (⟨"ShutBenchModel", "chosen", "(III)V"⟩, 44) := ⟨⟨by decide +kernel, by decide +kernel⟩, List.mem_of_getElem? (i := 750) (by decide +kernel), List.mem_of_getElem? (i := 1137) (by decide +kernel), List.mem_of_getElem? (i := 1138) (by decide +kernel)⟩
theorem lw_p76 : lw_okq (⟨"ShutBenchModel", "products", "(III)V"⟩, 44) := ⟨⟨by decide +kernel, by decide +kernel⟩, List.mem_of_getElem? (i := 750) (by decide +kernel), List.mem_of_getElem? (i := 1141) (by decide +kernel), List.mem_of_getElem? (i := 1142) (by decide +kernel)⟩
theorem lw_p77 : lw_okq (⟨"ShutBenchModel", "thenTimes", "(JJ)V"⟩, 44) := ⟨⟨by decide +kernel, by decide +kernel⟩, List.mem_of_getElem? (i := 750) (by decide +kernel), List.mem_of_getElem? (i := 1145) (by decide +kernel), List.mem_of_getElem? (i := 1146) (by decide +kernel)⟩
theorem lw_p78 : lw_okq (⟨"ShutBenchModel", "sizes", "(JJJJ)V"⟩, 44) := ⟨⟨by decide +kernel, by decide +kernel⟩, List.mem_of_getElem? (i := 750) (by decide +kernel), List.mem_of_getElem? (i := 1150) (by decide +kernel), List.mem_of_getElem? (i := 1151) (by decide +kernel)⟩
theorem lw_p79 : lw_okq (⟨"ShutBenchModel", "sumOf", "(II)Z"⟩, 44) := ⟨⟨by decide +kernel, by decide +kernel⟩, List.mem_of_getElem? (i := 750) (by decide +kernel), List.mem_of_getElem? (i := 1159) (by decide +kernel), List.mem_of_getElem? (i := 1160) (by decide +kernel)⟩
def lw_privs_5 : List (MethodName × Nat) := [(⟨"ShutBenchModel", "by", "(JJJJ)V"⟩, 44), (⟨"ShutBenchModel", "root", "(JJ)V"⟩, 44), (⟨"ShutBenchModel", "exp", "(JJ)V"⟩, 44), (⟨"ShutBenchModel", "log", "(JJ)V"⟩, 44), (⟨"ShutBenchModel", "wave", "(JJZ)V"⟩, 44), (⟨"ShutBenchModel", "size", "(JJ)V"⟩, 44), (⟨"ShutBenchModel", "keepValue", "(I)V"⟩, 44), (⟨"ShutBenchModel", "tells", "(ZJJ)I"⟩, 44), (⟨"ShutBenchModel", "shutSlope", "(IJJ)Z"⟩, 44), (⟨"ShutBenchModel", "slopes", "(IJJ)V"⟩, 44), (⟨"ShutBenchModel", "slope", "(I)V"⟩, 44), (⟨"ShutBenchModel", "chosen", "(III)V"⟩, 44), (⟨"ShutBenchModel", "products", "(III)V"⟩, 44), (⟨"ShutBenchModel", "thenTimes", "(JJ)V"⟩, 44), (⟨"ShutBenchModel", "sizes", "(JJJJ)V"⟩, 44), (⟨"ShutBenchModel", "sumOf", "(II)Z"⟩, 44)]
theorem lw_r5 : ∀ q ∈ lw_privs_5, lw_okq q := List.forall_mem_cons.mpr ⟨lw_p64, List.forall_mem_cons.mpr ⟨lw_p65, List.forall_mem_cons.mpr ⟨lw_p66, List.forall_mem_cons.mpr ⟨lw_p67, List.forall_mem_cons.mpr ⟨lw_p68, List.forall_mem_cons.mpr ⟨lw_p69, List.forall_mem_cons.mpr ⟨lw_p70, List.forall_mem_cons.mpr ⟨lw_p71, List.forall_mem_cons.mpr ⟨lw_p72, List.forall_mem_cons.mpr ⟨lw_p73, List.forall_mem_cons.mpr ⟨lw_p74, List.forall_mem_cons.mpr ⟨lw_p75, List.forall_mem_cons.mpr ⟨lw_p76, List.forall_mem_cons.mpr ⟨lw_p77, List.forall_mem_cons.mpr ⟨lw_p78, List.forall_mem_cons.mpr ⟨lw_p79, fun _ h => absurd h List.not_mem_nil⟩⟩⟩⟩⟩⟩⟩⟩⟩⟩⟩⟩⟩⟩⟩⟩
theorem lw_p80 : lw_okq (⟨"ShutBenchModel", "halve", "(I)V"⟩, 44) := ⟨⟨by decide +kernel, by decide +kernel⟩, List.mem_of_getElem? (i := 750) (by decide +kernel), List.mem_of_getElem? (i := 1164) (by decide +kernel), List.mem_of_getElem? (i := 1165) (by decide +kernel)⟩
theorem lw_p81 : lw_okq (⟨"ShutBenchModel", "looked", "(IJJ)I"⟩, 44) := ⟨⟨by decide +kernel, by decide +kernel⟩, List.mem_of_getElem? (i := 750) (by decide +kernel), List.mem_of_getElem? (i := 1172) (by decide +kernel), List.mem_of_getElem? (i := 1173) (by decide +kernel)⟩
theorem lw_p82 : lw_okq (⟨"ShutBenchModel", "signOf", "(IJ)I"⟩, 44) := ⟨⟨by decide +kernel, by decide +kernel⟩, List.mem_of_getElem? (i := 750) (by decide +kernel), List.mem_of_getElem? (i := 1176) (by decide +kernel), List.mem_of_getElem? (i := 1177) (by decide +kernel)⟩
theorem lw_p83 : lw_okq (⟨"ShutBenchModel", "extreme", "(IIIIZ)I"⟩, 44) := ⟨⟨by decide +kernel, by decide +kernel⟩, List.mem_of_getElem? (i := 750) (by decide +kernel), List.mem_of_getElem? (i := 1188) (by decide +kernel), List.mem_of_getElem? (i := 1189) (by decide +kernel)⟩
theorem lw_p84 : lw_okq (⟨"ShutBenchModel", "lowOf", "(IIZ)Z"⟩, 44) := ⟨⟨by decide +kernel, by decide +kernel⟩, List.mem_of_getElem? (i := 750) (by decide +kernel), List.mem_of_getElem? (i := 1192) (by decide +kernel), List.mem_of_getElem? (i := 1193) (by decide +kernel)⟩
theorem lw_p85 : lw_okq (⟨"ShutBenchModel", "shutOf", "(IJJZ)Z"⟩, 44) := ⟨⟨by decide +kernel, by decide +kernel⟩, List.mem_of_getElem? (i := 750) (by decide +kernel), List.mem_of_getElem? (i := 1196) (by decide +kernel), List.mem_of_getElem? (i := 1197) (by decide +kernel)⟩
theorem lw_p86 : lw_okq (⟨"ShutBenchModel", "least", "()I"⟩, 44) := ⟨⟨by decide +kernel, by decide +kernel⟩, List.mem_of_getElem? (i := 750) (by decide +kernel), List.mem_of_getElem? (i := 1200) (by decide +kernel), List.mem_of_getElem? (i := 1201) (by decide +kernel)⟩
theorem lw_p87 : lw_okq (⟨"ShutBenchModel", "isNotAbove", "(IJI)Z"⟩, 44) := ⟨⟨by decide +kernel, by decide +kernel⟩, List.mem_of_getElem? (i := 750) (by decide +kernel), List.mem_of_getElem? (i := 1212) (by decide +kernel), List.mem_of_getElem? (i := 1213) (by decide +kernel)⟩
def lw_privs_6 : List (MethodName × Nat) := [(⟨"ShutBenchModel", "halve", "(I)V"⟩, 44), (⟨"ShutBenchModel", "looked", "(IJJ)I"⟩, 44), (⟨"ShutBenchModel", "signOf", "(IJ)I"⟩, 44), (⟨"ShutBenchModel", "extreme", "(IIIIZ)I"⟩, 44), (⟨"ShutBenchModel", "lowOf", "(IIZ)Z"⟩, 44), (⟨"ShutBenchModel", "shutOf", "(IJJZ)Z"⟩, 44), (⟨"ShutBenchModel", "least", "()I"⟩, 44), (⟨"ShutBenchModel", "isNotAbove", "(IJI)Z"⟩, 44)]
theorem lw_r6 : ∀ q ∈ lw_privs_6, lw_okq q := List.forall_mem_cons.mpr ⟨lw_p80, List.forall_mem_cons.mpr ⟨lw_p81, List.forall_mem_cons.mpr ⟨lw_p82, List.forall_mem_cons.mpr ⟨lw_p83, List.forall_mem_cons.mpr ⟨lw_p84, List.forall_mem_cons.mpr ⟨lw_p85, List.forall_mem_cons.mpr ⟨lw_p86, List.forall_mem_cons.mpr ⟨lw_p87, fun _ h => absurd h List.not_mem_nil⟩⟩⟩⟩⟩⟩⟩⟩
def lw_privs : List (MethodName × Nat) := lw_privs_1 ++ (lw_privs_2 ++ (lw_privs_3 ++ (lw_privs_4 ++ (lw_privs_5 ++ (lw_privs_6)))))
def lw_tbl : List Cond := k2_sels lw_privs ++ tables_1
theorem lw_privs_ok : ∀ q ∈ lw_privs, lw_okq q := by
  show ∀ q ∈ lw_privs_1 ++ (lw_privs_2 ++ (lw_privs_3 ++ (lw_privs_4 ++ (lw_privs_5 ++ (lw_privs_6))))), lw_okq q
  exact List.forall_mem_append.mpr ⟨lw_r1, List.forall_mem_append.mpr ⟨lw_r2, List.forall_mem_append.mpr ⟨lw_r3, List.forall_mem_append.mpr ⟨lw_r4, List.forall_mem_append.mpr ⟨lw_r5, lw_r6⟩⟩⟩⟩⟩
end
section
/-! ===== BEGIN words of one list among another's, by their places ===== -/
theorem goodIn_r {big : List Cond} (ws : List Cond) (ps : List Nat) (hp : ws = ps.filterMap (fun i => big[i]?)) (h : ws.all goodWord = true) : GoodIn big ws := by
  intro w hw
  have h1 := List.all_eq_true.mp h w hw
  rw [hp] at hw
  obtain ⟨i, -, hi⟩ := List.mem_filterMap.mp hw
  have hm : w ∈ big := by first | exact List.mem_of_getElem? hi | exact List.getElem?_mem hi
  exact ⟨hm, good_of_word h1⟩
theorem goodIn_app {big a b : List Cond} (ha : GoodIn big a) (hb : GoodIn big b) : GoodIn big (a ++ b) := fun w h => (List.mem_append.mp h).elim (ha w) (hb w)
theorem goodIn_ca {big a b : List Cond} {c : Cond} (ha : GoodIn big (c :: a)) (hb : GoodIn big b) : GoodIn big (c :: (a ++ b)) := fun w h => (List.mem_cons.mp h).elim (fun e => ha w (List.mem_cons.mpr (Or.inl e))) (fun h => (List.mem_append.mp h).elim (fun h => ha w (List.mem_cons.mpr (Or.inr h))) (hb w))
theorem goodIn_sub {big ws : List Cond} (hm : ∀ w ∈ ws, w ∈ big) (h : ws.all goodWord = true) : GoodIn big ws := fun w hw => ⟨hm w hw, good_of_word (List.all_eq_true.mp h w hw)⟩
/-! ===== END ===== -/

/-! ===== BEGIN printed: names, fields, word lists, decode rows ===== -/
def RX0 : String := "ShutBench$Curve"
def TX0 : u_T := fun k => match k with
  | 0 => ("ShutBench$Curve", "kinds", "[I", true)
  | 1 => ("ShutBench$Curve", "details", "[J", true)
  | 2 => ("ShutBench$Curve", "lefts", "[I", true)
  | 3 => ("ShutBench$Curve", "acts", "I", false)
  | 4 => ("ShutBench$Curve", "smooth", "Z", false)
  | 5 => ("ShutBench$Curve", "degree", "I", false)
  | _ => ("ShutBench$Curve", "needs", "I", false)
def tyX0 : Nat → FieldType := fun k => match k with
  | 0 => .array .int
  | 1 => .array .long
  | 2 => .array .int
  | 3 => .int
  | 4 => .boolean
  | 5 => .int
  | _ => .int
abbrev wsX00 : List Cond := u_ws RX0 TX0 7
theorem nmX0 : ∀ a, a < 7 → ∀ b, b < 7 → a ≠ b → (TX0 a).2.1 ≠ (TX0 b).2.1 := by decide +kernel
theorem tyX0_ok : ∀ k, k < 7 → parseFieldDescriptor (TX0 k).2.2.1 = some (tyX0 k) := by decide +kernel
abbrev cX0_init : ByteArray := prog_2_method_1_code
def yX0_init : MethodName := ⟨RX0, "<init>", "()V"⟩
abbrev cX0_add : ByteArray := prog_2_method_2_code
def yX0_add : MethodName := ⟨RX0, "add", "(IJI)V"⟩
abbrev cX0_copy : ByteArray := prog_2_method_3_code
def yX0_copy : MethodName := ⟨RX0, "copy", "(LShutBench$Curve;)V"⟩
abbrev cX0_kindAt : ByteArray := prog_2_method_4_code
def yX0_kindAt : MethodName := ⟨RX0, "kindAt", "(I)I"⟩
abbrev cX0_detailAt : ByteArray := prog_2_method_5_code
def yX0_detailAt : MethodName := ⟨RX0, "detailAt", "(I)J"⟩
abbrev cX0_leftAt : ByteArray := prog_2_method_6_code
def yX0_leftAt : MethodName := ⟨RX0, "leftAt", "(I)I"⟩
def RX1 : String := "ShutBench$Gauge"
def TX1 : u_T := fun k => match k with
  | 0 => ("ShutBench$Gauge", "curves", "[LShutBench$Curve;", true)
  | 1 => ("ShutBench$Gauge", "none", "LShutBench$Curve;", true)
  | 2 => ("ShutBench$Gauge", "degrees", "[I", true)
  | 3 => ("ShutBench$Gauge", "values", "[J", true)
  | 4 => ("ShutBench$Gauge", "leans", "[J", true)
  | 5 => ("ShutBench$Gauge", "curveValues", "[J", true)
  | 6 => ("ShutBench$Gauge", "curveLeans", "[J", true)
  | 7 => ("ShutBench$Gauge", "span", "J", false)
  | 8 => ("ShutBench$Gauge", "curveCount", "I", false)
  | _ => ("ShutBench$Gauge", "steepness", "J", false)
def tyX1 : Nat → FieldType := fun k => match k with
  | 0 => .array (.object "ShutBench$Curve")
  | 1 => .object "ShutBench$Curve"
  | 2 => .array .int
  | 3 => .array .long
  | 4 => .array .long
  | 5 => .array .long
  | 6 => .array .long
  | 7 => .long
  | 8 => .int
  | _ => .long
abbrev wsX10 : List Cond := u_ws RX1 TX1 10
theorem nmX1 : ∀ a, a < 10 → ∀ b, b < 10 → a ≠ b → (TX1 a).2.1 ≠ (TX1 b).2.1 := by decide +kernel
theorem tyX1_ok : ∀ k, k < 10 → parseFieldDescriptor (TX1 k).2.2.1 = some (tyX1 k) := by decide +kernel
abbrev cX1_init : ByteArray := prog_3_method_1_code
def yX1_init : MethodName := ⟨RX1, "<init>", "()V"⟩
abbrev cX1_has : ByteArray := prog_3_method_2_code
def yX1_has : MethodName := ⟨RX1, "has", "(I)Z"⟩
abbrev cX1_curveAt : ByteArray := prog_3_method_3_code
def yX1_curveAt : MethodName := ⟨RX1, "curveAt", "(I)LShutBench$Curve;"⟩
abbrev cX1_keep : ByteArray := prog_3_method_4_code
def yX1_keep : MethodName := ⟨RX1, "keep", "(LShutBench$Curve;)I"⟩
abbrev cX1_degreeOf : ByteArray := prog_3_method_5_code
def yX1_degreeOf : MethodName := ⟨RX1, "degreeOf", "(LShutBench$Curve;I)I"⟩
abbrev cX1_degreeAt : ByteArray := prog_3_method_6_code
def yX1_degreeAt : MethodName := ⟨RX1, "degreeAt", "(I)I"⟩
abbrev cX1_rowAt : ByteArray := prog_3_method_7_code
def yX1_rowAt : MethodName := ⟨RX1, "rowAt", "([JI)J"⟩
abbrev cX1_measure : ByteArray := prog_3_method_8_code
def yX1_measure : MethodName := ⟨RX1, "measure", "(IIIZ)J"⟩
abbrev cX1_valueOf : ByteArray := prog_3_method_9_code
def yX1_valueOf : MethodName := ⟨RX1, "valueOf", "(LShutBench$Curve;I)J"⟩
abbrev cX1_leanOf : ByteArray := prog_3_method_10_code
def yX1_leanOf : MethodName := ⟨RX1, "leanOf", "(LShutBench$Curve;I)J"⟩
abbrev cX1_wholes : ByteArray := prog_3_method_11_code
def yX1_wholes : MethodName := ⟨RX1, "wholes", "(J)J"⟩
abbrev cX1_leanOfPower : ByteArray := prog_3_method_12_code
def yX1_leanOfPower : MethodName := ⟨RX1, "leanOfPower", "(JJJ)J"⟩
abbrev cX1_leanOfSize : ByteArray := prog_3_method_13_code
def yX1_leanOfSize : MethodName := ⟨RX1, "leanOfSize", "(JJ)J"⟩
def RX2 : String := "ShutBench$Halver"
def TX2 : u_T := fun k => match k with
  | 0 => ("ShutBench$Halver", "begins", "[I", true)
  | 1 => ("ShutBench$Halver", "ends", "[I", true)
  | 2 => ("ShutBench$Halver", "lows", "[J", true)
  | 3 => ("ShutBench$Halver", "highs", "[J", true)
  | 4 => ("ShutBench$Halver", "parts", "I", false)
  | 5 => ("ShutBench$Halver", "foundLow", "J", false)
  | _ => ("ShutBench$Halver", "foundHigh", "J", false)
def tyX2 : Nat → FieldType := fun k => match k with
  | 0 => .array .int
  | 1 => .array .int
  | 2 => .array .long
  | 3 => .array .long
  | 4 => .int
  | 5 => .long
  | _ => .long
abbrev wsX20 : List Cond := u_ws RX2 TX2 7
theorem nmX2 : ∀ a, a < 7 → ∀ b, b < 7 → a ≠ b → (TX2 a).2.1 ≠ (TX2 b).2.1 := by decide +kernel
theorem tyX2_ok : ∀ k, k < 7 → parseFieldDescriptor (TX2 k).2.2.1 = some (tyX2 k) := by decide +kernel
abbrev cX2_init : ByteArray := prog_4_method_1_code
def yX2_init : MethodName := ⟨RX2, "<init>", "()V"⟩
abbrev cX2_sumUp : ByteArray := prog_4_method_2_code
def yX2_sumUp : MethodName := ⟨RX2, "sumUp", "(LShutBench$Gauge;IIIIJ)Z"⟩
abbrev cX2_sumPart : ByteArray := prog_4_method_3_code
def yX2_sumPart : MethodName := ⟨RX2, "sumPart", "(LShutBench$Gauge;IIII)Z"⟩
abbrev cX2_seekLeast : ByteArray := prog_4_method_4_code
def yX2_seekLeast : MethodName := ⟨RX2, "seekLeast", "(LShutBench$Gauge;IIIIZ)Z"⟩
abbrev cX2_sinkPart : ByteArray := prog_4_method_5_code
def yX2_sinkPart : MethodName := ⟨RX2, "sinkPart", "(LShutBench$Gauge;IIIIZ)Z"⟩
abbrev cX2_keep : ByteArray := prog_4_method_6_code
def yX2_keep : MethodName := ⟨RX2, "keep", "(IIIJJ)V"⟩
abbrev cX2_canHalve : ByteArray := prog_4_method_7_code
def yX2_canHalve : MethodName := ⟨RX2, "canHalve", "(I)Z"⟩
abbrev cX2_widest : ByteArray := prog_4_method_8_code
def yX2_widest : MethodName := ⟨RX2, "widest", "()I"⟩
abbrev cX2_deepest : ByteArray := prog_4_method_9_code
def yX2_deepest : MethodName := ⟨RX2, "deepest", "()I"⟩
def RX3 : String := "ShutBench$Reader"
def TX3 : u_T := fun k => match k with
  | 0 => ("ShutBench$Reader", "tape", "LShutBench$Tape;", true)
  | 1 => ("ShutBench$Reader", "draft", "LShutBench$Curve;", true)
  | 2 => ("ShutBench$Reader", "place", "I", false)
  | 3 => ("ShutBench$Reader", "met", "I", false)
  | 4 => ("ShutBench$Reader", "fault", "I", false)
  | _ => ("ShutBench$Reader", "known", "I", false)
def tyX3 : Nat → FieldType := fun k => match k with
  | 0 => .object "ShutBench$Tape"
  | 1 => .object "ShutBench$Curve"
  | 2 => .int
  | 3 => .int
  | 4 => .int
  | _ => .int
abbrev wsX30 : List Cond := u_ws RX3 TX3 6
theorem nmX3 : ∀ a, a < 6 → ∀ b, b < 6 → a ≠ b → (TX3 a).2.1 ≠ (TX3 b).2.1 := by decide +kernel
theorem tyX3_ok : ∀ k, k < 6 → parseFieldDescriptor (TX3 k).2.2.1 = some (tyX3 k) := by decide +kernel
abbrev cX3_init : ByteArray := prog_5_method_1_code
def yX3_init : MethodName := ⟨RX3, "<init>", "()V"⟩
abbrev cX3_read : ByteArray := prog_5_method_2_code
def yX3_read : MethodName := ⟨RX3, "read", "(I)I"⟩
abbrev cX3_refuse : ByteArray := prog_5_method_3_code
def yX3_refuse : MethodName := ⟨RX3, "refuse", "(I)V"⟩
abbrev cX3_sign : ByteArray := prog_5_method_4_code
def yX3_sign : MethodName := ⟨RX3, "sign", "()I"⟩
abbrev cX3_meet : ByteArray := prog_5_method_5_code
def yX3_meet : MethodName := ⟨RX3, "meet", "()Z"⟩
abbrev cX3_emit : ByteArray := prog_5_method_6_code
def yX3_emit : MethodName := ⟨RX3, "emit", "(IJI)V"⟩
abbrev cX3_sum : ByteArray := prog_5_method_7_code
def yX3_sum : MethodName := ⟨RX3, "sum", "(I)V"⟩
abbrev cX3_term : ByteArray := prog_5_method_8_code
def yX3_term : MethodName := ⟨RX3, "term", "(I)V"⟩
abbrev cX3_power : ByteArray := prog_5_method_9_code
def yX3_power : MethodName := ⟨RX3, "power", "(I)V"⟩
abbrev cX3_piece : ByteArray := prog_5_method_10_code
def yX3_piece : MethodName := ⟨RX3, "piece", "(I)V"⟩
abbrev cX3_inside : ByteArray := prog_5_method_11_code
def yX3_inside : MethodName := ⟨RX3, "inside", "(I)V"⟩
abbrev cX3_pass : ByteArray := prog_5_method_12_code
def yX3_pass : MethodName := ⟨RX3, "pass", "(I)V"⟩
abbrev cX3_word : ByteArray := prog_5_method_13_code
def yX3_word : MethodName := ⟨RX3, "word", "()I"⟩
abbrev cX3_curveNumber : ByteArray := prog_5_method_14_code
def yX3_curveNumber : MethodName := ⟨RX3, "curveNumber", "()I"⟩
abbrev cX3_kindOf : ByteArray := prog_5_method_15_code
def yX3_kindOf : MethodName := ⟨RX3, "kindOf", "(I)I"⟩
abbrev cX3_nameOf : ByteArray := prog_5_method_16_code
def yX3_nameOf : MethodName := ⟨RX3, "nameOf", "(I)I"⟩
abbrev cX3_isWord : ByteArray := prog_5_method_17_code
def yX3_isWord : MethodName := ⟨RX3, "isWord", "(ILjava/lang/String;)Z"⟩
abbrev cX3_isNumber : ByteArray := prog_5_method_18_code
def yX3_isNumber : MethodName := ⟨RX3, "isNumber", "(I)Z"⟩
abbrev cX3_number : ByteArray := prog_5_method_19_code
def yX3_number : MethodName := ⟨RX3, "number", "(I)J"⟩
abbrev cX3_isDigit : ByteArray := prog_5_method_20_code
def yX3_isDigit : MethodName := ⟨RX3, "isDigit", "(I)Z"⟩
abbrev cX3_isWordByte : ByteArray := prog_5_method_21_code
def yX3_isWordByte : MethodName := ⟨RX3, "isWordByte", "(I)Z"⟩
def RX4 : String := "ShutBench$Series"
def TX4 : u_T := fun k => match k with
  | _ => ("", "", "", false)
def tyX4 : Nat → FieldType := fun k => match k with
  | _ => .int
abbrev wsX40 : List Cond := u_ws RX4 TX4 0
theorem nmX4 : ∀ a, a < 0 → ∀ b, b < 0 → a ≠ b → (TX4 a).2.1 ≠ (TX4 b).2.1 := by decide +kernel
theorem tyX4_ok : ∀ k, k < 0 → parseFieldDescriptor (TX4 k).2.2.1 = some (tyX4 k) := by decide +kernel
abbrev cX4_exp : ByteArray := prog_6_method_2_code
def yX4_exp : MethodName := ⟨RX4, "exp", "(J)J"⟩
abbrev cX4_raised : ByteArray := prog_6_method_3_code
def yX4_raised : MethodName := ⟨RX4, "raised", "(JZ)J"⟩
abbrev cX4_log : ByteArray := prog_6_method_4_code
def yX4_log : MethodName := ⟨RX4, "log", "(J)J"⟩
abbrev cX4_halved : ByteArray := prog_6_method_5_code
def yX4_halved : MethodName := ⟨RX4, "halved", "(JZ)J"⟩
abbrev cX4_wave : ByteArray := prog_6_method_6_code
def yX4_wave : MethodName := ⟨RX4, "wave", "(JZ)J"⟩
def RX5 : String := "ShutBench$Shut"
def TX5 : u_T := fun k => match k with
  | _ => ("", "", "", false)
def tyX5 : Nat → FieldType := fun k => match k with
  | _ => .int
abbrev wsX50 : List Cond := u_ws RX5 TX5 0
theorem nmX5 : ∀ a, a < 0 → ∀ b, b < 0 → a ≠ b → (TX5 a).2.1 ≠ (TX5 b).2.1 := by decide +kernel
theorem tyX5_ok : ∀ k, k < 0 → parseFieldDescriptor (TX5 k).2.2.1 = some (tyX5 k) := by decide +kernel
abbrev cX5_of : ByteArray := prog_7_method_2_code
def yX5_of : MethodName := ⟨RX5, "of", "(JJ)J"⟩
abbrev cX5_lowOf : ByteArray := prog_7_method_3_code
def yX5_lowOf : MethodName := ⟨RX5, "lowOf", "(J)J"⟩
abbrev cX5_highOf : ByteArray := prog_7_method_4_code
def yX5_highOf : MethodName := ⟨RX5, "highOf", "(J)J"⟩
abbrev cX5_isHole : ByteArray := prog_7_method_5_code
def yX5_isHole : MethodName := ⟨RX5, "isHole", "(JJ)Z"⟩
abbrev cX5_hasNoZero : ByteArray := prog_7_method_6_code
def yX5_hasNoZero : MethodName := ⟨RX5, "hasNoZero", "(J)Z"⟩
abbrev cX5_isApart : ByteArray := prog_7_method_7_code
def yX5_isApart : MethodName := ⟨RX5, "isApart", "(JJ)Z"⟩
abbrev cX5_plus : ByteArray := prog_7_method_8_code
def yX5_plus : MethodName := ⟨RX5, "plus", "(JJ)J"⟩
abbrev cX5_minus : ByteArray := prog_7_method_9_code
def yX5_minus : MethodName := ⟨RX5, "minus", "(JJ)J"⟩
abbrev cX5_turned : ByteArray := prog_7_method_10_code
def yX5_turned : MethodName := ⟨RX5, "turned", "(J)J"⟩
abbrev cX5_times : ByteArray := prog_7_method_11_code
def yX5_times : MethodName := ⟨RX5, "times", "(JJ)J"⟩
abbrev cX5_over : ByteArray := prog_7_method_12_code
def yX5_over : MethodName := ⟨RX5, "over", "(JJ)J"⟩
abbrev cX5_power : ByteArray := prog_7_method_13_code
def yX5_power : MethodName := ⟨RX5, "power", "(JJ)J"⟩
abbrev cX5_grownDown : ByteArray := prog_7_method_14_code
def yX5_grownDown : MethodName := ⟨RX5, "grownDown", "(JJ)J"⟩
abbrev cX5_grownUp : ByteArray := prog_7_method_15_code
def yX5_grownUp : MethodName := ⟨RX5, "grownUp", "(JJ)J"⟩
abbrev cX5_size : ByteArray := prog_7_method_16_code
def yX5_size : MethodName := ⟨RX5, "size", "(J)J"⟩
abbrev cX5_lesser : ByteArray := prog_7_method_17_code
def yX5_lesser : MethodName := ⟨RX5, "lesser", "(JJ)J"⟩
abbrev cX5_greater : ByteArray := prog_7_method_18_code
def yX5_greater : MethodName := ⟨RX5, "greater", "(JJ)J"⟩
abbrev cX5_together : ByteArray := prog_7_method_19_code
def yX5_together : MethodName := ⟨RX5, "together", "(JJ)J"⟩
abbrev cX5_root : ByteArray := prog_7_method_20_code
def yX5_root : MethodName := ⟨RX5, "root", "(J)J"⟩
abbrev cX5_rootDown : ByteArray := prog_7_method_21_code
def yX5_rootDown : MethodName := ⟨RX5, "rootDown", "(J)J"⟩
def RX6 : String := "ShutBench$Tape"
def TX6 : u_T := fun k => match k with
  | 0 => ("ShutBench$Tape", "bytes", "[I", true)
  | _ => ("ShutBench$Tape", "size", "I", false)
def tyX6 : Nat → FieldType := fun k => match k with
  | 0 => .array .int
  | _ => .int
abbrev wsX60 : List Cond := u_ws RX6 TX6 2
theorem nmX6 : ∀ a, a < 2 → ∀ b, b < 2 → a ≠ b → (TX6 a).2.1 ≠ (TX6 b).2.1 := by decide +kernel
theorem tyX6_ok : ∀ k, k < 2 → parseFieldDescriptor (TX6 k).2.2.1 = some (tyX6 k) := by decide +kernel
abbrev cX6_init : ByteArray := prog_8_method_1_code
def yX6_init : MethodName := ⟨RX6, "<init>", "()V"⟩
abbrev cX6_take : ByteArray := prog_8_method_2_code
def yX6_take : MethodName := ⟨RX6, "take", "(I)V"⟩
abbrev cX6_byteAt : ByteArray := prog_8_method_3_code
def yX6_byteAt : MethodName := ⟨RX6, "byteAt", "(I)I"⟩
def RX7 : String := "ShutBench$Walker"
def TX7 : u_T := fun k => match k with
  | 0 => ("ShutBench$Walker", "waitingEnds", "[I", true)
  | 1 => ("ShutBench$Walker", "begins", "[I", true)
  | 2 => ("ShutBench$Walker", "ends", "[I", true)
  | 3 => ("ShutBench$Walker", "whats", "[I", true)
  | 4 => ("ShutBench$Walker", "waiting", "I", false)
  | 5 => ("ShutBench$Walker", "told", "I", false)
  | 6 => ("ShutBench$Walker", "looks", "I", false)
  | _ => ("ShutBench$Walker", "place", "I", false)
def tyX7 : Nat → FieldType := fun k => match k with
  | 0 => .array .int
  | 1 => .array .int
  | 2 => .array .int
  | 3 => .array .int
  | 4 => .int
  | 5 => .int
  | 6 => .int
  | _ => .int
abbrev wsX70 : List Cond := u_ws RX7 TX7 8
theorem nmX7 : ∀ a, a < 8 → ∀ b, b < 8 → a ≠ b → (TX7 a).2.1 ≠ (TX7 b).2.1 := by decide +kernel
theorem tyX7_ok : ∀ k, k < 8 → parseFieldDescriptor (TX7 k).2.2.1 = some (tyX7 k) := by decide +kernel
abbrev cX7_init : ByteArray := prog_9_method_1_code
def yX7_init : MethodName := ⟨RX7, "<init>", "()V"⟩
abbrev cX7_seekRoots : ByteArray := prog_9_method_2_code
def yX7_seekRoots : MethodName := ⟨RX7, "seekRoots", "(LShutBench$Gauge;IIII)V"⟩
abbrev cX7_lookAt : ByteArray := prog_9_method_3_code
def yX7_lookAt : MethodName := ⟨RX7, "lookAt", "(LShutBench$Gauge;III)I"⟩
abbrev cX7_keep : ByteArray := prog_9_method_4_code
def yX7_keep : MethodName := ⟨RX7, "keep", "(III)V"⟩
abbrev cX7_tellPart : ByteArray := prog_9_method_5_code
def yX7_tellPart : MethodName := ⟨RX7, "tellPart", "(II)I"⟩
abbrev cX7_seekBreak : ByteArray := prog_9_method_6_code
def yX7_seekBreak : MethodName := ⟨RX7, "seekBreak", "(LShutBench$Gauge;IIIII)I"⟩
abbrev cX7_isAbove : ByteArray := prog_9_method_7_code
def yX7_isAbove : MethodName := ⟨RX7, "isAbove", "(JI)Z"⟩
abbrev cX7_breaks : ByteArray := prog_9_method_8_code
def yX7_breaks : MethodName := ⟨RX7, "breaks", "(LShutBench$Gauge;IIII)Z"⟩
abbrev cX7_breaksAt : ByteArray := prog_9_method_9_code
def yX7_breaksAt : MethodName := ⟨RX7, "breaksAt", "(LShutBench$Gauge;III)Z"⟩
abbrev cX7_await : ByteArray := prog_9_method_10_code
def yX7_await : MethodName := ⟨RX7, "await", "(I)V"⟩
abbrev cX7_firstEnd : ByteArray := prog_9_method_11_code
def yX7_firstEnd : MethodName := ⟨RX7, "firstEnd", "()I"⟩
def RX8 : String := "ShutBench"
def TX8 : u_T := fun k => match k with
  | 0 => ("ShutBench", "reader", "LShutBench$Reader;", true)
  | 1 => ("ShutBench", "gauge", "LShutBench$Gauge;", true)
  | 2 => ("ShutBench", "halver", "LShutBench$Halver;", true)
  | 3 => ("ShutBench", "walker", "LShutBench$Walker;", true)
  | 4 => ("ShutBench", "low", "J", false)
  | 5 => ("ShutBench", "high", "J", false)
  | 6 => ("ShutBench", "partCount", "I", false)
  | _ => ("ShutBench", "lookCount", "I", false)
def tyX8 : Nat → FieldType := fun k => match k with
  | 0 => .object "ShutBench$Reader"
  | 1 => .object "ShutBench$Gauge"
  | 2 => .object "ShutBench$Halver"
  | 3 => .object "ShutBench$Walker"
  | 4 => .long
  | 5 => .long
  | 6 => .int
  | _ => .int
abbrev wsX80 : List Cond := u_ws RX8 TX8 8
theorem nmX8 : ∀ a, a < 8 → ∀ b, b < 8 → a ≠ b → (TX8 a).2.1 ≠ (TX8 b).2.1 := by decide +kernel
theorem tyX8_ok : ∀ k, k < 8 → parseFieldDescriptor (TX8 k).2.2.1 = some (tyX8 k) := by decide +kernel
abbrev cX8_init : ByteArray := prog_1_method_1_code
def yX8_init : MethodName := ⟨RX8, "<init>", "()V"⟩
abbrev cX8_feed : ByteArray := prog_1_method_2_code
def yX8_feed : MethodName := ⟨RX8, "feed", "(IIIII)I"⟩
abbrev cX8_end : ByteArray := prog_1_method_3_code
def yX8_end : MethodName := ⟨RX8, "end", "(I)I"⟩
abbrev cX8_curve : ByteArray := prog_1_method_4_code
def yX8_curve : MethodName := ⟨RX8, "curve", "()I"⟩
abbrev cX8_drop : ByteArray := prog_1_method_5_code
def yX8_drop : MethodName := ⟨RX8, "drop", "()I"⟩
abbrev cX8_about : ByteArray := prog_1_method_6_code
def yX8_about : MethodName := ⟨RX8, "about", "(II)I"⟩
abbrev cX8_at : ByteArray := prog_1_method_7_code
def yX8_at : MethodName := ⟨RX8, "at", "(III)I"⟩
abbrev cX8_slope : ByteArray := prog_1_method_8_code
def yX8_slope : MethodName := ⟨RX8, "slope", "(III)I"⟩
abbrev cX8_area : ByteArray := prog_1_method_9_code
def yX8_area : MethodName := ⟨RX8, "area", "(IIIIJ)I"⟩
abbrev cX8_roots : ByteArray := prog_1_method_10_code
def yX8_roots : MethodName := ⟨RX8, "roots", "(IIII)I"⟩
abbrev cX8_part : ByteArray := prog_1_method_11_code
def yX8_part : MethodName := ⟨RX8, "part", "(II)I"⟩
abbrev cX8_least : ByteArray := prog_1_method_12_code
def yX8_least : MethodName := ⟨RX8, "least", "(IIII)I"⟩
abbrev cX8_greatest : ByteArray := prog_1_method_13_code
def yX8_greatest : MethodName := ⟨RX8, "greatest", "(IIII)I"⟩
abbrev cX8_never : ByteArray := prog_1_method_14_code
def yX8_never : MethodName := ⟨RX8, "never", "(IIIII)I"⟩
abbrev cX8_low : ByteArray := prog_1_method_15_code
def yX8_low : MethodName := ⟨RX8, "low", "()J"⟩
abbrev cX8_high : ByteArray := prog_1_method_16_code
def yX8_high : MethodName := ⟨RX8, "high", "()J"⟩
abbrev cX8_count : ByteArray := prog_1_method_17_code
def yX8_count : MethodName := ⟨RX8, "count", "(I)I"⟩
abbrev cX8_isHalvings : ByteArray := prog_1_method_18_code
def yX8_isHalvings : MethodName := ⟨RX8, "isHalvings", "(I)Z"⟩
abbrev cX8_middleOf : ByteArray := prog_1_method_19_code
def yX8_middleOf : MethodName := ⟨RX8, "middleOf", "(II)I"⟩
abbrev cX8_tell : ByteArray := prog_1_method_20_code
def yX8_tell : MethodName := ⟨RX8, "tell", "(J)I"⟩
abbrev cX8_tellHalved : ByteArray := prog_1_method_21_code
def yX8_tellHalved : MethodName := ⟨RX8, "tellHalved", "(ZZ)I"⟩
def RX9 : String := "ShutBenchModel"
def TX9 : u_T := fun k => match k with
  | 0 => ("ShutBenchModel", "thrown", "I", false)
  | 1 => ("ShutBenchModel", "tape", "[B", true)
  | 2 => ("ShutBenchModel", "taped", "I", false)
  | 3 => ("ShutBenchModel", "curves", "I", false)
  | 4 => ("ShutBenchModel", "acts", "[I", true)
  | 5 => ("ShutBenchModel", "op", "[I", true)
  | 6 => ("ShutBenchModel", "first", "[I", true)
  | 7 => ("ShutBenchModel", "second", "[I", true)
  | 8 => ("ShutBenchModel", "numberLow", "[J", true)
  | 9 => ("ShutBenchModel", "numberHigh", "[J", true)
  | 10 => ("ShutBenchModel", "at", "I", false)
  | 11 => ("ShutBenchModel", "fault", "I", false)
  | 12 => ("ShutBenchModel", "place", "I", false)
  | 13 => ("ShutBenchModel", "made", "I", false)
  | 14 => ("ShutBenchModel", "open", "I", false)
  | 15 => ("ShutBenchModel", "acts60", "I", false)
  | 16 => ("ShutBenchModel", "smooth", "[I", true)
  | 17 => ("ShutBenchModel", "degreeOf", "[I", true)
  | 18 => ("ShutBenchModel", "degree", "[I", true)
  | 19 => ("ShutBenchModel", "low", "J", false)
  | 20 => ("ShutBenchModel", "high", "J", false)
  | 21 => ("ShutBenchModel", "hole", "Z", false)
  | 22 => ("ShutBenchModel", "isOver", "Z", false)
  | 23 => ("ShutBenchModel", "vLow", "[J", true)
  | 24 => ("ShutBenchModel", "vHigh", "[J", true)
  | 25 => ("ShutBenchModel", "sLow", "[J", true)
  | 26 => ("ShutBenchModel", "sHigh", "[J", true)
  | 27 => ("ShutBenchModel", "vHole", "[Z", true)
  | 28 => ("ShutBenchModel", "sHole", "[Z", true)
  | 29 => ("ShutBenchModel", "itsLow", "J", false)
  | 30 => ("ShutBenchModel", "itsHigh", "J", false)
  | 31 => ("ShutBenchModel", "toldLow", "J", false)
  | 32 => ("ShutBenchModel", "toldHigh", "J", false)
  | 33 => ("ShutBenchModel", "parts", "I", false)
  | 34 => ("ShutBenchModel", "from", "[J", true)
  | 35 => ("ShutBenchModel", "to", "[J", true)
  | 36 => ("ShutBenchModel", "partLow", "[J", true)
  | 37 => ("ShutBenchModel", "partHigh", "[J", true)
  | 38 => ("ShutBenchModel", "partsOfArea", "I", false)
  | 39 => ("ShutBenchModel", "partsOfNever", "I", false)
  | 40 => ("ShutBenchModel", "told", "I", false)
  | 41 => ("ShutBenchModel", "toldFrom", "[J", true)
  | 42 => ("ShutBenchModel", "toldTo", "[J", true)
  | _ => ("ShutBenchModel", "toldWhat", "[I", true)
def tyX9 : Nat → FieldType := fun k => match k with
  | 0 => .int
  | 1 => .array .byte
  | 2 => .int
  | 3 => .int
  | 4 => .array .int
  | 5 => .array .int
  | 6 => .array .int
  | 7 => .array .int
  | 8 => .array .long
  | 9 => .array .long
  | 10 => .int
  | 11 => .int
  | 12 => .int
  | 13 => .int
  | 14 => .int
  | 15 => .int
  | 16 => .array .int
  | 17 => .array .int
  | 18 => .array .int
  | 19 => .long
  | 20 => .long
  | 21 => .boolean
  | 22 => .boolean
  | 23 => .array .long
  | 24 => .array .long
  | 25 => .array .long
  | 26 => .array .long
  | 27 => .array .boolean
  | 28 => .array .boolean
  | 29 => .long
  | 30 => .long
  | 31 => .long
  | 32 => .long
  | 33 => .int
  | 34 => .array .long
  | 35 => .array .long
  | 36 => .array .long
  | 37 => .array .long
  | 38 => .int
  | 39 => .int
  | 40 => .int
  | 41 => .array .long
  | 42 => .array .long
  | _ => .array .int
abbrev wsX90 : List Cond := u_ws RX9 TX9 44
theorem nmX9 : ∀ a, a < 44 → ∀ b, b < 44 → a ≠ b → (TX9 a).2.1 ≠ (TX9 b).2.1 := by decide +kernel
theorem tyX9_ok : ∀ k, k < 44 → parseFieldDescriptor (TX9 k).2.2.1 = some (tyX9 k) := by decide +kernel
abbrev cX9_init : ByteArray := prog_11_method_1_code
def yX9_init : MethodName := ⟨RX9, "<init>", "()V"⟩
abbrev cX9_feed : ByteArray := prog_11_method_3_code
def yX9_feed : MethodName := ⟨RX9, "feed", "(IIIII)I"⟩
abbrev cX9_put : ByteArray := prog_11_method_4_code
def yX9_put : MethodName := ⟨RX9, "put", "(I)V"⟩
abbrev cX9_end : ByteArray := prog_11_method_5_code
def yX9_end : MethodName := ⟨RX9, "end", "(I)I"⟩
abbrev cX9_bad : ByteArray := prog_11_method_6_code
def yX9_bad : MethodName := ⟨RX9, "bad", "()Z"⟩
abbrev cX9_fails : ByteArray := prog_11_method_7_code
def yX9_fails : MethodName := ⟨RX9, "fails", "(II)I"⟩
abbrev cX9_peek : ByteArray := prog_11_method_8_code
def yX9_peek : MethodName := ⟨RX9, "peek", "()I"⟩
abbrev cX9_isDigit : ByteArray := prog_11_method_9_code
def yX9_isDigit : MethodName := ⟨RX9, "isDigit", "(I)Z"⟩
abbrev cX9_meets : ByteArray := prog_11_method_10_code
def yX9_meets : MethodName := ⟨RX9, "meets", "(I)V"⟩
abbrev cX9_make : ByteArray := prog_11_method_11_code
def yX9_make : MethodName := ⟨RX9, "make", "(III)I"⟩
abbrev cX9_sum : ByteArray := prog_11_method_12_code
def yX9_sum : MethodName := ⟨RX9, "sum", "()I"⟩
abbrev cX9_term : ByteArray := prog_11_method_13_code
def yX9_term : MethodName := ⟨RX9, "term", "()I"⟩
abbrev cX9_power : ByteArray := prog_11_method_14_code
def yX9_power : MethodName := ⟨RX9, "power", "()I"⟩
abbrev cX9_wordEnd : ByteArray := prog_11_method_15_code
def yX9_wordEnd : MethodName := ⟨RX9, "wordEnd", "()I"⟩
abbrev cX9_stands : ByteArray := prog_11_method_16_code
def yX9_stands : MethodName := ⟨RX9, "stands", "(Ljava/lang/String;I)Z"⟩
abbrev cX9_isNumber : ByteArray := prog_11_method_17_code
def yX9_isNumber : MethodName := ⟨RX9, "isNumber", "(I)Z"⟩
abbrev cX9_nameOf : ByteArray := prog_11_method_18_code
def yX9_nameOf : MethodName := ⟨RX9, "nameOf", "(I)Ljava/lang/String;"⟩
abbrev cX9_need : ByteArray := prog_11_method_19_code
def yX9_need : MethodName := ⟨RX9, "need", "(I)V"⟩
abbrev cX9_opens : ByteArray := prog_11_method_20_code
def yX9_opens : MethodName := ⟨RX9, "opens", "()V"⟩
abbrev cX9_part : ByteArray := prog_11_method_21_code
def yX9_part : MethodName := ⟨RX9, "part", "()I"⟩
abbrev cX9_named : ByteArray := prog_11_method_22_code
def yX9_named : MethodName := ⟨RX9, "named", "(I)I"⟩
abbrev cX9_number : ByteArray := prog_11_method_23_code
def yX9_number : MethodName := ⟨RX9, "number", "()I"⟩
abbrev cX9_curve : ByteArray := prog_11_method_24_code
def yX9_curve : MethodName := ⟨RX9, "curve", "()I"⟩
abbrev cX9_drop : ByteArray := prog_11_method_25_code
def yX9_drop : MethodName := ⟨RX9, "drop", "()I"⟩
abbrev cX9_has : ByteArray := prog_11_method_26_code
def yX9_has : MethodName := ⟨RX9, "has", "(I)Z"⟩
abbrev cX9_about : ByteArray := prog_11_method_27_code
def yX9_about : MethodName := ⟨RX9, "about", "(II)I"⟩
abbrev cX9_looks : ByteArray := prog_11_method_28_code
def yX9_looks : MethodName := ⟨RX9, "looks", "(I)V"⟩
abbrev cX9_down : ByteArray := prog_11_method_29_code
def yX9_down : MethodName := ⟨RX9, "down", "(JJ)J"⟩
abbrev cX9_up : ByteArray := prog_11_method_30_code
def yX9_up : MethodName := ⟨RX9, "up", "(JJ)J"⟩
abbrev cX9_is : ByteArray := prog_11_method_31_code
def yX9_is : MethodName := ⟨RX9, "is", "(JJ)V"⟩
abbrev cX9_isHole : ByteArray := prog_11_method_32_code
def yX9_isHole : MethodName := ⟨RX9, "isHole", "()V"⟩
abbrev cX9_less : ByteArray := prog_11_method_33_code
def yX9_less : MethodName := ⟨RX9, "less", "(JJ)J"⟩
abbrev cX9_more : ByteArray := prog_11_method_34_code
def yX9_more : MethodName := ⟨RX9, "more", "(JJ)J"⟩
abbrev cX9_times : ByteArray := prog_11_method_35_code
def yX9_times : MethodName := ⟨RX9, "times", "(JJJJ)V"⟩
abbrev cX9_by : ByteArray := prog_11_method_36_code
def yX9_by : MethodName := ⟨RX9, "by", "(JJJJ)V"⟩
abbrev cX9_size : ByteArray := prog_11_method_37_code
def yX9_size : MethodName := ⟨RX9, "size", "(JIZ)J"⟩
abbrev cX9_power_ : ByteArray := prog_11_method_38_code
def yX9_power_ : MethodName := ⟨RX9, "power", "(JJI)V"⟩
abbrev cX9_rootDown : ByteArray := prog_11_method_39_code
def yX9_rootDown : MethodName := ⟨RX9, "rootDown", "(J)J"⟩
abbrev cX9_root : ByteArray := prog_11_method_40_code
def yX9_root : MethodName := ⟨RX9, "root", "(JJ)V"⟩
abbrev cX9_cut : ByteArray := prog_11_method_41_code
def yX9_cut : MethodName := ⟨RX9, "cut", "(JJZ)J"⟩
abbrev cX9_power__ : ByteArray := prog_11_method_42_code
def yX9_power__ : MethodName := ⟨RX9, "power", "(JZ)J"⟩
abbrev cX9_exp : ByteArray := prog_11_method_43_code
def yX9_exp : MethodName := ⟨RX9, "exp", "(JJ)V"⟩
abbrev cX9_log : ByteArray := prog_11_method_44_code
def yX9_log : MethodName := ⟨RX9, "log", "(JJ)V"⟩
abbrev cX9_halved : ByteArray := prog_11_method_45_code
def yX9_halved : MethodName := ⟨RX9, "halved", "(JZ)J"⟩
abbrev cX9_wave : ByteArray := prog_11_method_46_code
def yX9_wave : MethodName := ⟨RX9, "wave", "(JJZ)V"⟩
abbrev cX9_keepValue : ByteArray := prog_11_method_47_code
def yX9_keepValue : MethodName := ⟨RX9, "keepValue", "(I)V"⟩
abbrev cX9_lastOf : ByteArray := prog_11_method_48_code
def yX9_lastOf : MethodName := ⟨RX9, "lastOf", "(I)I"⟩
abbrev cX9_values : ByteArray := prog_11_method_49_code
def yX9_values : MethodName := ⟨RX9, "values", "(IJJ)V"⟩
abbrev cX9_value : ByteArray := prog_11_method_50_code
def yX9_value : MethodName := ⟨RX9, "value", "(IJJ)V"⟩
abbrev cX9_size_ : ByteArray := prog_11_method_51_code
def yX9_size_ : MethodName := ⟨RX9, "size", "(JJ)V"⟩
abbrev cX9_slopes : ByteArray := prog_11_method_52_code
def yX9_slopes : MethodName := ⟨RX9, "slopes", "(IJJ)V"⟩
abbrev cX9_thenTimes : ByteArray := prog_11_method_53_code
def yX9_thenTimes : MethodName := ⟨RX9, "thenTimes", "(JJ)V"⟩
abbrev cX9_slope : ByteArray := prog_11_method_54_code
def yX9_slope : MethodName := ⟨RX9, "slope", "(I)V"⟩
abbrev cX9_products : ByteArray := prog_11_method_55_code
def yX9_products : MethodName := ⟨RX9, "products", "(III)V"⟩
abbrev cX9_sizes : ByteArray := prog_11_method_56_code
def yX9_sizes : MethodName := ⟨RX9, "sizes", "(JJJJ)V"⟩
abbrev cX9_chosen : ByteArray := prog_11_method_57_code
def yX9_chosen : MethodName := ⟨RX9, "chosen", "(III)V"⟩
abbrev cX9_shut : ByteArray := prog_11_method_58_code
def yX9_shut : MethodName := ⟨RX9, "shut", "(IJJ)Z"⟩
abbrev cX9_shutSlope : ByteArray := prog_11_method_59_code
def yX9_shutSlope : MethodName := ⟨RX9, "shutSlope", "(IJJ)Z"⟩
abbrev cX9_tells : ByteArray := prog_11_method_60_code
def yX9_tells : MethodName := ⟨RX9, "tells", "(ZJJ)I"⟩
abbrev cX9_at : ByteArray := prog_11_method_61_code
def yX9_at : MethodName := ⟨RX9, "at", "(III)I"⟩
abbrev cX9_slope_ : ByteArray := prog_11_method_62_code
def yX9_slope_ : MethodName := ⟨RX9, "slope", "(III)I"⟩
abbrev cX9_halve : ByteArray := prog_11_method_63_code
def yX9_halve : MethodName := ⟨RX9, "halve", "(I)V"⟩
abbrev cX9_sumOf : ByteArray := prog_11_method_64_code
def yX9_sumOf : MethodName := ⟨RX9, "sumOf", "(II)Z"⟩
abbrev cX9_area : ByteArray := prog_11_method_65_code
def yX9_area : MethodName := ⟨RX9, "area", "(IIIIJ)I"⟩
abbrev cX9_looked : ByteArray := prog_11_method_66_code
def yX9_looked : MethodName := ⟨RX9, "looked", "(IJJ)I"⟩
abbrev cX9_signOf : ByteArray := prog_11_method_67_code
def yX9_signOf : MethodName := ⟨RX9, "signOf", "(IJ)I"⟩
abbrev cX9_roots : ByteArray := prog_11_method_68_code
def yX9_roots : MethodName := ⟨RX9, "roots", "(IIII)I"⟩
abbrev cX9_part_ : ByteArray := prog_11_method_69_code
def yX9_part_ : MethodName := ⟨RX9, "part", "(II)I"⟩
abbrev cX9_shutOf : ByteArray := prog_11_method_70_code
def yX9_shutOf : MethodName := ⟨RX9, "shutOf", "(IJJZ)Z"⟩
abbrev cX9_lowOf : ByteArray := prog_11_method_71_code
def yX9_lowOf : MethodName := ⟨RX9, "lowOf", "(IIZ)Z"⟩
abbrev cX9_extreme : ByteArray := prog_11_method_72_code
def yX9_extreme : MethodName := ⟨RX9, "extreme", "(IIIIZ)I"⟩
abbrev cX9_least : ByteArray := prog_11_method_73_code
def yX9_least : MethodName := ⟨RX9, "least", "()I"⟩
abbrev cX9_least_ : ByteArray := prog_11_method_74_code
def yX9_least_ : MethodName := ⟨RX9, "least", "(IIII)I"⟩
abbrev cX9_greatest : ByteArray := prog_11_method_75_code
def yX9_greatest : MethodName := ⟨RX9, "greatest", "(IIII)I"⟩
abbrev cX9_never : ByteArray := prog_11_method_76_code
def yX9_never : MethodName := ⟨RX9, "never", "(IIIII)I"⟩
abbrev cX9_isNotAbove : ByteArray := prog_11_method_77_code
def yX9_isNotAbove : MethodName := ⟨RX9, "isNotAbove", "(IJI)Z"⟩
abbrev cX9_low : ByteArray := prog_11_method_78_code
def yX9_low : MethodName := ⟨RX9, "low", "()J"⟩
abbrev cX9_high : ByteArray := prog_11_method_79_code
def yX9_high : MethodName := ⟨RX9, "high", "()J"⟩
abbrev cX9_count : ByteArray := prog_11_method_80_code
def yX9_count : MethodName := ⟨RX9, "count", "(I)I"⟩
def RJ9 : String := "java/lang/Math"
def TJ9 : u_T := fun k => match k with
  | _ => ("", "", "", false)
def tyJ9 : Nat → FieldType := fun k => match k with
  | _ => .int
abbrev wsJ90 : List Cond := u_ws RJ9 TJ9 0
theorem nmJ9 : ∀ a, a < 0 → ∀ b, b < 0 → a ≠ b → (TJ9 a).2.1 ≠ (TJ9 b).2.1 := by decide +kernel
theorem tyJ9_ok : ∀ k, k < 0 → parseFieldDescriptor (TJ9 k).2.2.1 = some (tyJ9 k) := by decide +kernel
abbrev cJ9_floorDiv_f86c9 : ByteArray := prog_12_method_49_code
def yJ9_floorDiv_f86c9 : MethodName := ⟨RJ9, "floorDiv", "(JJ)J"⟩
abbrev cJ9_abs_067f4 : ByteArray := prog_12_method_61_code
def yJ9_abs_067f4 : MethodName := ⟨RJ9, "abs", "(J)J"⟩
abbrev cJ9_max_7cf53 : ByteArray := prog_12_method_65_code
def yJ9_max_7cf53 : MethodName := ⟨RJ9, "max", "(II)I"⟩
abbrev cJ9_max_f86c9 : ByteArray := prog_12_method_66_code
def yJ9_max_f86c9 : MethodName := ⟨RJ9, "max", "(JJ)J"⟩
abbrev cJ9_min_7cf53 : ByteArray := prog_12_method_69_code
def yJ9_min_7cf53 : MethodName := ⟨RJ9, "min", "(II)I"⟩
abbrev cJ9_min_f86c9 : ByteArray := prog_12_method_70_code
def yJ9_min_f86c9 : MethodName := ⟨RJ9, "min", "(JJ)J"⟩
def RJ0 : String := "java/lang/String"
def TJ0 : u_T := fun k => match k with
  | _ => ("", "", "", false)
def tyJ0 : Nat → FieldType := fun k => match k with
  | _ => .int
abbrev wsJ00 : List Cond := u_ws RJ0 TJ0 0
theorem nmJ0 : ∀ a, a < 0 → ∀ b, b < 0 → a ≠ b → (TJ0 a).2.1 ≠ (TJ0 b).2.1 := by decide +kernel
theorem tyJ0_ok : ∀ k, k < 0 → parseFieldDescriptor (TJ0 k).2.2.1 = some (tyJ0 k) := by decide +kernel
abbrev cJ0_length_8abf5 : ByteArray := prog_13_method_54_code
def yJ0_length_8abf5 : MethodName := ⟨RJ0, "length", "()I"⟩
abbrev cJ0_charAt_5068e : ByteArray := prog_13_method_56_code
def yJ0_charAt_5068e : MethodName := ⟨RJ0, "charAt", "(I)C"⟩
abbrev cJ0_coder_7d493 : ByteArray := prog_13_method_152_code
def yJ0_coder_7d493 : MethodName := ⟨RJ0, "coder", "()B"⟩
abbrev cJ0_isLatin1_aae02 : ByteArray := prog_13_method_154_code
def yJ0_isLatin1_aae02 : MethodName := ⟨RJ0, "isLatin1", "()Z"⟩
abbrev cJ0_checkIndex_df160 : ByteArray := prog_13_method_155_code
def yJ0_checkIndex_df160 : MethodName := ⟨RJ0, "checkIndex", "(II)V"⟩
def RJ1 : String := "java/lang/StringLatin1"
def TJ1 : u_T := fun k => match k with
  | _ => ("", "", "", false)
def tyJ1 : Nat → FieldType := fun k => match k with
  | _ => .int
abbrev wsJ10 : List Cond := u_ws RJ1 TJ1 0
theorem nmJ1 : ∀ a, a < 0 → ∀ b, b < 0 → a ≠ b → (TJ1 a).2.1 ≠ (TJ1 b).2.1 := by decide +kernel
theorem tyJ1_ok : ∀ k, k < 0 → parseFieldDescriptor (TJ1 k).2.2.1 = some (tyJ1 k) := by decide +kernel
abbrev cJ1_charAt_3b067 : ByteArray := prog_14_method_2_code
def yJ1_charAt_3b067 : MethodName := ⟨RJ1, "charAt", "([BI)C"⟩
def RJ2 : String := "java/lang/StringUTF16"
def TJ2 : u_T := fun k => match k with
  | _ => ("", "", "", false)
def tyJ2 : Nat → FieldType := fun k => match k with
  | _ => .int
abbrev wsJ20 : List Cond := u_ws RJ2 TJ2 0
theorem nmJ2 : ∀ a, a < 0 → ∀ b, b < 0 → a ≠ b → (TJ2 a).2.1 ≠ (TJ2 b).2.1 := by decide +kernel
theorem tyJ2_ok : ∀ k, k < 0 → parseFieldDescriptor (TJ2 k).2.2.1 = some (tyJ2 k) := by decide +kernel
abbrev cJ2_getChar_3b067 : ByteArray := prog_15_method_5_code
def yJ2_getChar_3b067 : MethodName := ⟨RJ2, "getChar", "([BI)C"⟩
abbrev cJ2_length_9d52b : ByteArray := prog_15_method_6_code
def yJ2_length_9d52b : MethodName := ⟨RJ2, "length", "([B)I"⟩
abbrev cJ2_charAt_3b067 : ByteArray := prog_15_method_83_code
def yJ2_charAt_3b067 : MethodName := ⟨RJ2, "charAt", "([BI)C"⟩
abbrev cJ2_checkIndex_2214a : ByteArray := prog_15_method_91_code
def yJ2_checkIndex_2214a : MethodName := ⟨RJ2, "checkIndex", "(I[B)V"⟩
def RJ3 : String := "jdk/internal/util/Preconditions"
def TJ3 : u_T := fun k => match k with
  | _ => ("", "", "", false)
def tyJ3 : Nat → FieldType := fun k => match k with
  | _ => .int
abbrev wsJ30 : List Cond := u_ws RJ3 TJ3 0
theorem nmJ3 : ∀ a, a < 0 → ∀ b, b < 0 → a ≠ b → (TJ3 a).2.1 ≠ (TJ3 b).2.1 := by decide +kernel
theorem tyJ3_ok : ∀ k, k < 0 → parseFieldDescriptor (TJ3 k).2.2.1 = some (tyJ3 k) := by decide +kernel
abbrev cJ3_checkIndex_8e157 : ByteArray := prog_16_method_11_code
def yJ3_checkIndex_8e157 : MethodName := ⟨RJ3, "checkIndex", "(IILjava/util/function/BiFunction;)I"⟩
def RL : String := "ShutBenchLaw"
abbrev cL_law : ByteArray := code
def yL_law : MethodName := ⟨RL, "law", "([I)Z"⟩
abbrev vwCl : List vw_C := [(RX0, TX0, 7), (RX1, TX1, 10), (RX2, TX2, 7), (RX3, TX3, 6), (RX6, TX6, 2), (RX7, TX7, 8), (RX8, TX8, 8), (RX9, TX9, 44)]
end
section
/-! the words of the tables that every method is given: the good ones -/
def zT : List Cond := lw_tbl.filter goodWord
theorem zT_tbl : ∀ w ∈ zT, w ∈ lw_tbl := fun w h => (List.mem_filter.mp h).1
theorem zT_good : GoodIn zT zT := fun w h => ⟨h, good_of_word (List.mem_filter.mp h).2⟩
theorem zT_of {w : Cond} (h : w ∈ lw_tbl) (g : goodWord w = true) : w ∈ zT := List.mem_filter.mpr ⟨h, g⟩
theorem zT_p {w : Cond} (n : Nat) (h : (k2_sels lw_privs)[n]? = some w) (g : goodWord w = true) : w ∈ zT := zT_of (List.mem_append_left _ (List.mem_of_getElem? h)) g
theorem zT_1 {w : Cond} (n : Nat) (h : tables_1_1[n]? = some w) (g : goodWord w = true) : w ∈ zT := zT_of (List.mem_append_right _ (List.mem_append_left _ (List.mem_of_getElem? h))) g
theorem zT_2 {w : Cond} (n : Nat) (h : tables_1_2[n]? = some w) (g : goodWord w = true) : w ∈ zT := zT_of (List.mem_append_right _ (List.mem_append_right _ (List.mem_append_left _ (List.mem_of_getElem? h)))) g
theorem zT_3 {w : Cond} (n : Nat) (h : tables_1_3[n]? = some w) (g : goodWord w = true) : w ∈ zT := zT_of (List.mem_append_right _ (List.mem_append_right _ (List.mem_append_right _ (List.mem_append_left _ (List.mem_of_getElem? h))))) g
theorem zT_4 {w : Cond} (n : Nat) (h : tables_1_4[n]? = some w) (g : goodWord w = true) : w ∈ zT := zT_of (List.mem_append_right _ (List.mem_append_right _ (List.mem_append_right _ (List.mem_append_right _ (List.mem_append_left _ (List.mem_of_getElem? h)))))) g
theorem zT_5 {w : Cond} (n : Nat) (h : tables_1_5[n]? = some w) (g : goodWord w = true) : w ∈ zT := zT_of (List.mem_append_right _ (List.mem_append_right _ (List.mem_append_right _ (List.mem_append_right _ (List.mem_append_right _ (List.mem_append_left _ (List.mem_of_getElem? h))))))) g
theorem zT_6 {w : Cond} (n : Nat) (h : tables_1_6[n]? = some w) (g : goodWord w = true) : w ∈ zT := zT_of (List.mem_append_right _ (List.mem_append_right _ (List.mem_append_right _ (List.mem_append_right _ (List.mem_append_right _ (List.mem_append_right _ (List.mem_of_getElem? h))))))) g
abbrev zWd (y : MethodName) (n : Nat) : Prop := y.cls ≠ "java/lang/invoke/MethodHandle" ∧ y.cls ≠ "java/lang/invoke/VarHandle" ∧ (parseMethodDescriptor y.desc).map (fun d => d.parameters.length) = some n
theorem kf_J0_9 : Cond.fieldLink RJ0 9 "java/lang/String" "value" "[B" ∈ zT := zT_6 28 (by decide +kernel) rfl
theorem kf_J0_15 : Cond.fieldLink RJ0 15 "java/lang/String" "coder" "B" ∈ zT := zT_6 29 (by decide +kernel) rfl
theorem kf_J0_38 : Cond.fieldLink RJ0 38 "java/lang/String" "COMPACT_STRINGS" "Z" ∈ zT := zT_2 81 (by decide +kernel) rfl
theorem km_J0_335 : Cond.methodLink RJ0 335 yJ0_coder_7d493 ∈ zT := zT_2 77 (by decide +kernel) rfl
theorem km_J0_492 : Cond.methodLink RJ0 492 yJ0_isLatin1_aae02 ∈ zT := zT_2 87 (by decide +kernel) rfl
theorem km_J0_495 : Cond.methodLink RJ0 495 yJ1_charAt_3b067 ∈ zT := zT_2 91 (by decide +kernel) rfl
theorem km_J0_498 : Cond.methodLink RJ0 498 yJ2_charAt_3b067 ∈ zT := zT_2 102 (by decide +kernel) rfl
theorem kf_J0_1053 : Cond.fieldLink RJ0 1053 "jdk/internal/util/Preconditions" "SIOOBE_FORMATTER" "Ljava/util/function/BiFunction;" ∈ zT := zT_2 97 (by decide +kernel) rfl
theorem km_J0_1059 : Cond.methodLink RJ0 1059 yJ3_checkIndex_8e157 ∈ zT := zT_2 99 (by decide +kernel) rfl
theorem km_J1_9 : Cond.methodLink RJ1 9 yJ0_checkIndex_df160 ∈ zT := zT_2 94 (by decide +kernel) rfl
theorem kf_J2_44 : Cond.fieldLink RJ2 44 "java/lang/StringUTF16" "$assertionsDisabled" "Z" ∈ zT := zT_2 115 (by decide +kernel) rfl
theorem km_J2_48 : Cond.methodLink RJ2 48 yJ2_length_9d52b ∈ zT := zT_2 108 (by decide +kernel) rfl
theorem kf_J2_59 : Cond.fieldLink RJ2 59 "java/lang/StringUTF16" "HI_BYTE_SHIFT" "I" ∈ zT := zT_2 117 (by decide +kernel) rfl
theorem kf_J2_63 : Cond.fieldLink RJ2 63 "java/lang/StringUTF16" "LO_BYTE_SHIFT" "I" ∈ zT := zT_2 119 (by decide +kernel) rfl
theorem km_J2_67 : Cond.methodLink RJ2 67 yJ2_checkIndex_2214a ∈ zT := zT_2 105 (by decide +kernel) rfl
theorem km_J2_71 : Cond.methodLink RJ2 71 yJ2_getChar_3b067 ∈ zT := zT_2 112 (by decide +kernel) rfl
theorem km_J2_414 : Cond.methodLink RJ2 414 yJ0_checkIndex_df160 ∈ zT := zT_2 111 (by decide +kernel) rfl
theorem km_L_9 : Cond.methodLink RL 9 yX8_init ∈ zT := zT_1 18 (by decide +kernel) rfl
theorem km_L_12 : Cond.methodLink RL 12 yX9_init ∈ zT := zT_4 31 (by decide +kernel) rfl
theorem km_L_13 : Cond.methodLink RL 13 yX8_feed ∈ zT := zT_1 238 (by decide +kernel) rfl
theorem km_L_17 : Cond.methodLink RL 17 yX9_feed ∈ zT := zT_4 168 (by decide +kernel) rfl
theorem km_L_18 : Cond.methodLink RL 18 yX8_end ∈ zT := zT_2 6 (by decide +kernel) rfl
theorem km_L_22 : Cond.methodLink RL 22 yX9_end ∈ zT := zT_4 176 (by decide +kernel) rfl
theorem km_L_23 : Cond.methodLink RL 23 yX8_curve ∈ zT := zT_2 10 (by decide +kernel) rfl
theorem km_L_27 : Cond.methodLink RL 27 yX9_curve ∈ zT := zT_4 180 (by decide +kernel) rfl
theorem km_L_28 : Cond.methodLink RL 28 yX8_drop ∈ zT := zT_2 208 (by decide +kernel) rfl
theorem km_L_31 : Cond.methodLink RL 31 yX9_drop ∈ zT := zT_5 36 (by decide +kernel) rfl
theorem km_L_32 : Cond.methodLink RL 32 yX8_about ∈ zT := zT_2 212 (by decide +kernel) rfl
theorem km_L_36 : Cond.methodLink RL 36 yX9_about ∈ zT := zT_5 40 (by decide +kernel) rfl
theorem km_L_37 : Cond.methodLink RL 37 yX8_at ∈ zT := zT_2 221 (by decide +kernel) rfl
theorem km_L_41 : Cond.methodLink RL 41 yX9_at ∈ zT := zT_5 52 (by decide +kernel) rfl
theorem km_L_42 : Cond.methodLink RL 42 yX8_slope ∈ zT := zT_3 130 (by decide +kernel) rfl
theorem km_L_45 : Cond.methodLink RL 45 yX9_slope_ ∈ zT := zT_5 160 (by decide +kernel) rfl
theorem kc_L_46 : Cond.constantLong RL 46 (4294967295) ∈ zT := zT_6 27 (by decide +kernel) rfl
theorem km_L_48 : Cond.methodLink RL 48 yX8_area ∈ zT := zT_3 134 (by decide +kernel) rfl
theorem km_L_52 : Cond.methodLink RL 52 yX9_area ∈ zT := zT_5 193 (by decide +kernel) rfl
theorem km_L_53 : Cond.methodLink RL 53 yX8_roots ∈ zT := zT_3 177 (by decide +kernel) rfl
theorem km_L_57 : Cond.methodLink RL 57 yX9_roots ∈ zT := zT_5 207 (by decide +kernel) rfl
theorem km_L_58 : Cond.methodLink RL 58 yX8_part ∈ zT := zT_3 205 (by decide +kernel) rfl
theorem km_L_61 : Cond.methodLink RL 61 yX9_part_ ∈ zT := zT_5 219 (by decide +kernel) rfl
theorem km_L_62 : Cond.methodLink RL 62 yX8_least ∈ zT := zT_3 213 (by decide +kernel) rfl
theorem km_L_65 : Cond.methodLink RL 65 yX9_least_ ∈ zT := zT_5 223 (by decide +kernel) rfl
theorem km_L_66 : Cond.methodLink RL 66 yX8_greatest ∈ zT := zT_3 231 (by decide +kernel) rfl
theorem km_L_69 : Cond.methodLink RL 69 yX9_greatest ∈ zT := zT_6 3 (by decide +kernel) rfl
theorem km_L_70 : Cond.methodLink RL 70 yX8_never ∈ zT := zT_3 235 (by decide +kernel) rfl
theorem km_L_73 : Cond.methodLink RL 73 yX9_never ∈ zT := zT_6 7 (by decide +kernel) rfl
theorem km_L_74 : Cond.methodLink RL 74 yX8_low ∈ zT := zT_4 17 (by decide +kernel) rfl
theorem km_L_78 : Cond.methodLink RL 78 yX9_low ∈ zT := zT_6 15 (by decide +kernel) rfl
theorem km_L_79 : Cond.methodLink RL 79 yX8_high ∈ zT := zT_4 21 (by decide +kernel) rfl
theorem km_L_82 : Cond.methodLink RL 82 yX9_high ∈ zT := zT_6 19 (by decide +kernel) rfl
theorem km_L_83 : Cond.methodLink RL 83 yX8_count ∈ zT := zT_4 25 (by decide +kernel) rfl
theorem km_L_86 : Cond.methodLink RL 86 yX9_count ∈ zT := zT_6 23 (by decide +kernel) rfl
theorem kf_X0_9 : Cond.fieldLink RX0 9 "ShutBench$Curve" "kinds" "[I" ∈ zT := zT_1 52 (by decide +kernel) rfl
theorem kf_X0_15 : Cond.fieldLink RX0 15 "ShutBench$Curve" "details" "[J" ∈ zT := zT_1 54 (by decide +kernel) rfl
theorem kf_X0_19 : Cond.fieldLink RX0 19 "ShutBench$Curve" "lefts" "[I" ∈ zT := zT_1 56 (by decide +kernel) rfl
theorem kf_X0_22 : Cond.fieldLink RX0 22 "ShutBench$Curve" "acts" "I" ∈ zT := zT_1 57 (by decide +kernel) rfl
theorem km_X0_26 : Cond.methodLink RX0 26 yX0_add ∈ zT := zT_2 180 (by decide +kernel) rfl
theorem kf_X1_11 : Cond.fieldLink RX1 11 "ShutBench$Gauge" "curves" "[LShutBench$Curve;" ∈ zT := zT_1 113 (by decide +kernel) rfl
theorem kf_X1_18 : Cond.fieldLink RX1 18 "ShutBench$Gauge" "none" "LShutBench$Curve;" ∈ zT := zT_1 114 (by decide +kernel) rfl
theorem kf_X1_22 : Cond.fieldLink RX1 22 "ShutBench$Gauge" "degrees" "[I" ∈ zT := zT_1 115 (by decide +kernel) rfl
theorem kf_X1_26 : Cond.fieldLink RX1 26 "ShutBench$Gauge" "values" "[J" ∈ zT := zT_1 116 (by decide +kernel) rfl
theorem kf_X1_30 : Cond.fieldLink RX1 30 "ShutBench$Gauge" "leans" "[J" ∈ zT := zT_1 117 (by decide +kernel) rfl
theorem kf_X1_33 : Cond.fieldLink RX1 33 "ShutBench$Gauge" "curveValues" "[J" ∈ zT := zT_1 118 (by decide +kernel) rfl
theorem kf_X1_36 : Cond.fieldLink RX1 36 "ShutBench$Gauge" "curveLeans" "[J" ∈ zT := zT_1 119 (by decide +kernel) rfl
theorem kc_X1_41 : Cond.constantLong RX1 41 (4294967296) ∈ zT := zT_1 112 (by decide +kernel) rfl
theorem kf_X1_43 : Cond.fieldLink RX1 43 "ShutBench$Gauge" "steepness" "J" ∈ zT := zT_1 123 (by decide +kernel) rfl
theorem kf_X1_47 : Cond.fieldLink RX1 47 "ShutBench$Gauge" "curveCount" "I" ∈ zT := zT_1 121 (by decide +kernel) rfl
theorem km_X1_51 : Cond.methodLink RX1 51 yX1_curveAt ∈ zT := zT_2 172 (by decide +kernel) rfl
theorem km_X1_55 : Cond.methodLink RX1 55 yX0_copy ∈ zT := zT_2 176 (by decide +kernel) rfl
theorem kf_X1_59 : Cond.fieldLink RX1 59 "ShutBench$Curve" "smooth" "Z" ∈ zT := zT_1 61 (by decide +kernel) rfl
theorem kf_X1_63 : Cond.fieldLink RX1 63 "ShutBench$Curve" "needs" "I" ∈ zT := zT_1 65 (by decide +kernel) rfl
theorem kf_X1_66 : Cond.fieldLink RX1 66 "ShutBench$Curve" "acts" "I" ∈ zT := zT_1 59 (by decide +kernel) rfl
theorem kf_X1_69 : Cond.fieldLink RX1 69 "ShutBench$Curve" "kinds" "[I" ∈ zT := zT_1 53 (by decide +kernel) rfl
theorem kf_X1_72 : Cond.fieldLink RX1 72 "ShutBench$Curve" "details" "[J" ∈ zT := zT_1 55 (by decide +kernel) rfl
theorem km_X1_75 : Cond.methodLink RX1 75 yX1_degreeOf ∈ zT := zT_2 181 (by decide +kernel) rfl
theorem kf_X1_79 : Cond.fieldLink RX1 79 "ShutBench$Curve" "degree" "I" ∈ zT := zT_1 63 (by decide +kernel) rfl
theorem km_X1_82 : Cond.methodLink RX1 82 yX0_leftAt ∈ zT := zT_2 185 (by decide +kernel) rfl
theorem km_X1_86 : Cond.methodLink RX1 86 yX1_degreeAt ∈ zT := zT_2 189 (by decide +kernel) rfl
theorem km_X1_89 : Cond.methodLink RX1 89 yX0_kindAt ∈ zT := zT_2 193 (by decide +kernel) rfl
theorem km_X1_92 : Cond.methodLink RX1 92 yX0_detailAt ∈ zT := zT_2 197 (by decide +kernel) rfl
theorem km_X1_96 : Cond.methodLink RX1 96 Lib.Math.min.name ∈ zT := zT_2 201 (by decide +kernel) rfl
theorem km_X1_102 : Cond.methodLink RX1 102 Lib.Math.max.name ∈ zT := zT_2 204 (by decide +kernel) rfl
theorem km_X1_105 : Cond.methodLink RX1 105 yX5_of ∈ zT := zT_2 229 (by decide +kernel) rfl
theorem kf_X1_109 : Cond.fieldLink RX1 109 "ShutBench$Gauge" "span" "J" ∈ zT := zT_1 120 (by decide +kernel) rfl
theorem km_X1_112 : Cond.methodLink RX1 112 yX1_valueOf ∈ zT := zT_2 230 (by decide +kernel) rfl
theorem km_X1_116 : Cond.methodLink RX1 116 yX1_leanOf ∈ zT := zT_3 100 (by decide +kernel) rfl
theorem km_X1_119 : Cond.methodLink RX1 119 yX1_rowAt ∈ zT := zT_2 234 (by decide +kernel) rfl
theorem km_X1_123 : Cond.methodLink RX1 123 yX5_turned ∈ zT := zT_2 237 (by decide +kernel) rfl
theorem km_X1_127 : Cond.methodLink RX1 127 yX5_power ∈ zT := zT_3 7 (by decide +kernel) rfl
theorem km_X1_130 : Cond.methodLink RX1 130 yX5_root ∈ zT := zT_3 28 (by decide +kernel) rfl
theorem km_X1_133 : Cond.methodLink RX1 133 yX4_exp ∈ zT := zT_3 34 (by decide +kernel) rfl
theorem km_X1_138 : Cond.methodLink RX1 138 yX4_log ∈ zT := zT_3 52 (by decide +kernel) rfl
theorem km_X1_141 : Cond.methodLink RX1 141 yX4_wave ∈ zT := zT_3 59 (by decide +kernel) rfl
theorem km_X1_145 : Cond.methodLink RX1 145 yX5_size ∈ zT := zT_3 69 (by decide +kernel) rfl
theorem km_X1_148 : Cond.methodLink RX1 148 yX5_lesser ∈ zT := zT_3 73 (by decide +kernel) rfl
theorem km_X1_151 : Cond.methodLink RX1 151 yX5_greater ∈ zT := zT_3 79 (by decide +kernel) rfl
theorem km_X1_154 : Cond.methodLink RX1 154 yX5_plus ∈ zT := zT_3 82 (by decide +kernel) rfl
theorem km_X1_157 : Cond.methodLink RX1 157 yX5_minus ∈ zT := zT_3 85 (by decide +kernel) rfl
theorem km_X1_160 : Cond.methodLink RX1 160 yX5_times ∈ zT := zT_3 88 (by decide +kernel) rfl
theorem km_X1_163 : Cond.methodLink RX1 163 yX5_over ∈ zT := zT_3 91 (by decide +kernel) rfl
theorem km_X1_166 : Cond.methodLink RX1 166 yX1_wholes ∈ zT := zT_3 104 (by decide +kernel) rfl
theorem km_X1_169 : Cond.methodLink RX1 169 yX1_leanOfPower ∈ zT := zT_3 108 (by decide +kernel) rfl
theorem kc_X1_173 : Cond.constantLong RX1 173 (2) ∈ zT := zT_3 111 (by decide +kernel) rfl
theorem km_X1_175 : Cond.methodLink RX1 175 yX1_leanOfSize ∈ zT := zT_3 112 (by decide +kernel) rfl
theorem km_X1_178 : Cond.methodLink RX1 178 yX5_isApart ∈ zT := zT_3 120 (by decide +kernel) rfl
theorem km_X1_182 : Cond.methodLink RX1 182 yX5_together ∈ zT := zT_3 117 (by decide +kernel) rfl
theorem kc_X1_185 : Cond.constantLong RX1 185 (1048576) ∈ zT := zT_3 107 (by decide +kernel) rfl
theorem km_X1_187 : Cond.methodLink RX1 187 yX5_lowOf ∈ zT := zT_3 115 (by decide +kernel) rfl
theorem km_X1_190 : Cond.methodLink RX1 190 yX5_highOf ∈ zT := zT_3 116 (by decide +kernel) rfl
theorem kf_X2_11 : Cond.fieldLink RX2 11 "ShutBench$Halver" "begins" "[I" ∈ zT := zT_1 154 (by decide +kernel) rfl
theorem kf_X2_15 : Cond.fieldLink RX2 15 "ShutBench$Halver" "ends" "[I" ∈ zT := zT_1 155 (by decide +kernel) rfl
theorem kf_X2_18 : Cond.fieldLink RX2 18 "ShutBench$Halver" "lows" "[J" ∈ zT := zT_1 156 (by decide +kernel) rfl
theorem kf_X2_22 : Cond.fieldLink RX2 22 "ShutBench$Halver" "highs" "[J" ∈ zT := zT_1 157 (by decide +kernel) rfl
theorem kf_X2_25 : Cond.fieldLink RX2 25 "ShutBench$Halver" "parts" "I" ∈ zT := zT_1 158 (by decide +kernel) rfl
theorem km_X2_29 : Cond.methodLink RX2 29 yX2_sumPart ∈ zT := zT_3 146 (by decide +kernel) rfl
theorem kf_X2_33 : Cond.fieldLink RX2 33 "ShutBench$Halver" "foundLow" "J" ∈ zT := zT_1 160 (by decide +kernel) rfl
theorem kf_X2_37 : Cond.fieldLink RX2 37 "ShutBench$Halver" "foundHigh" "J" ∈ zT := zT_1 162 (by decide +kernel) rfl
theorem km_X2_40 : Cond.methodLink RX2 40 yX2_widest ∈ zT := zT_3 162 (by decide +kernel) rfl
theorem km_X2_44 : Cond.methodLink RX2 44 yX2_canHalve ∈ zT := zT_3 166 (by decide +kernel) rfl
theorem km_X2_52 : Cond.methodLink RX2 52 Lib.MathLoose.max_long.x ∈ zT := zT_3 171 (by decide +kernel) rfl
theorem km_X2_58 : Cond.methodLink RX2 58 Lib.MathLoose.min_long.x ∈ zT := zT_3 172 (by decide +kernel) rfl
theorem km_X2_61 : Cond.methodLink RX2 61 yX1_measure ∈ zT := zT_3 150 (by decide +kernel) rfl
theorem kf_X2_67 : Cond.fieldLink RX2 67 "ShutBench$Gauge" "steepness" "J" ∈ zT := zT_1 124 (by decide +kernel) rfl
theorem kc_X2_72 : Cond.constantLong RX2 72 (4294967296) ∈ zT := zT_3 151 (by decide +kernel) rfl
theorem km_X2_74 : Cond.methodLink RX2 74 yX5_lowOf ∈ zT := zT_3 152 (by decide +kernel) rfl
theorem km_X2_78 : Cond.methodLink RX2 78 yX5_highOf ∈ zT := zT_3 153 (by decide +kernel) rfl
theorem kc_X2_81 : Cond.constantLong RX2 81 (2147483647) ∈ zT := zT_3 157 (by decide +kernel) rfl
theorem km_X2_83 : Cond.methodLink RX2 83 yX2_keep ∈ zT := zT_3 158 (by decide +kernel) rfl
theorem km_X2_87 : Cond.methodLink RX2 87 yX2_sinkPart ∈ zT := zT_3 221 (by decide +kernel) rfl
theorem km_X2_91 : Cond.methodLink RX2 91 yX2_deepest ∈ zT := zT_3 227 (by decide +kernel) rfl
theorem km_X2_94 : Cond.methodLink RX2 94 yX5_turned ∈ zT := zT_3 225 (by decide +kernel) rfl
theorem km_X2_97 : Cond.methodLink RX2 97 yX5_isHole ∈ zT := zT_3 226 (by decide +kernel) rfl
theorem kc_X2_101 : Cond.constantLong RX2 101 (2) ∈ zT := zT_3 170 (by decide +kernel) rfl
theorem kf_X3_12 : Cond.fieldLink RX3 12 "ShutBench$Reader" "tape" "LShutBench$Tape;" ∈ zT := zT_1 82 (by decide +kernel) rfl
theorem kf_X3_21 : Cond.fieldLink RX3 21 "ShutBench$Reader" "draft" "LShutBench$Curve;" ∈ zT := zT_1 84 (by decide +kernel) rfl
theorem kf_X3_25 : Cond.fieldLink RX3 25 "ShutBench$Curve" "acts" "I" ∈ zT := zT_1 58 (by decide +kernel) rfl
theorem kf_X3_29 : Cond.fieldLink RX3 29 "ShutBench$Reader" "place" "I" ∈ zT := zT_1 86 (by decide +kernel) rfl
theorem kf_X3_32 : Cond.fieldLink RX3 32 "ShutBench$Reader" "met" "I" ∈ zT := zT_1 87 (by decide +kernel) rfl
theorem kf_X3_35 : Cond.fieldLink RX3 35 "ShutBench$Reader" "fault" "I" ∈ zT := zT_1 88 (by decide +kernel) rfl
theorem kf_X3_38 : Cond.fieldLink RX3 38 "ShutBench$Reader" "known" "I" ∈ zT := zT_1 89 (by decide +kernel) rfl
theorem km_X3_41 : Cond.methodLink RX3 41 yX3_sum ∈ zT := zT_2 18 (by decide +kernel) rfl
theorem km_X3_45 : Cond.methodLink RX3 45 yX3_sign ∈ zT := zT_2 30 (by decide +kernel) rfl
theorem km_X3_49 : Cond.methodLink RX3 49 yX3_refuse ∈ zT := zT_2 42 (by decide +kernel) rfl
theorem kf_X3_52 : Cond.fieldLink RX3 52 "ShutBench$Tape" "size" "I" ∈ zT := zT_1 39 (by decide +kernel) rfl
theorem km_X3_55 : Cond.methodLink RX3 55 yX6_byteAt ∈ zT := zT_2 34 (by decide +kernel) rfl
theorem km_X3_59 : Cond.methodLink RX3 59 yX0_add ∈ zT := zT_2 141 (by decide +kernel) rfl
theorem km_X3_63 : Cond.methodLink RX3 63 yX3_term ∈ zT := zT_2 22 (by decide +kernel) rfl
theorem km_X3_66 : Cond.methodLink RX3 66 yX3_meet ∈ zT := zT_2 38 (by decide +kernel) rfl
theorem km_X3_70 : Cond.methodLink RX3 70 yX3_emit ∈ zT := zT_2 137 (by decide +kernel) rfl
theorem km_X3_73 : Cond.methodLink RX3 73 yX3_power ∈ zT := zT_2 26 (by decide +kernel) rfl
theorem km_X3_76 : Cond.methodLink RX3 76 yX3_piece ∈ zT := zT_2 46 (by decide +kernel) rfl
theorem km_X3_79 : Cond.methodLink RX3 79 yX3_word ∈ zT := zT_2 50 (by decide +kernel) rfl
theorem km_X3_82 : Cond.methodLink RX3 82 yX3_pass ∈ zT := zT_2 160 (by decide +kernel) rfl
theorem km_X3_85 : Cond.methodLink RX3 85 yX3_inside ∈ zT := zT_2 164 (by decide +kernel) rfl
theorem km_X3_88 : Cond.methodLink RX3 88 yX3_isWordByte ∈ zT := zT_2 54 (by decide +kernel) rfl
theorem km_X3_92 : Cond.methodLink RX3 92 yX3_kindOf ∈ zT := zT_2 60 (by decide +kernel) rfl
theorem km_X3_95 : Cond.methodLink RX3 95 yX3_number ∈ zT := zT_2 145 (by decide +kernel) rfl
theorem km_X3_99 : Cond.methodLink RX3 99 yX3_curveNumber ∈ zT := zT_2 121 (by decide +kernel) rfl
theorem km_X3_102 : Cond.methodLink RX3 102 yX3_isDigit ∈ zT := zT_2 57 (by decide +kernel) rfl
theorem km_X3_105 : Cond.methodLink RX3 105 yX3_isNumber ∈ zT := zT_2 64 (by decide +kernel) rfl
theorem km_X3_110 : Cond.methodLink RX3 110 yX3_isWord ∈ zT := zT_2 69 (by decide +kernel) rfl
theorem km_X3_114 : Cond.methodLink RX3 114 yX3_nameOf ∈ zT := zT_2 125 (by decide +kernel) rfl
theorem km_X3_132 : Cond.methodLink RX3 132 yJ0_length_8abf5 ∈ zT := zT_2 73 (by decide +kernel) rfl
theorem km_X3_137 : Cond.methodLink RX3 137 yJ0_charAt_5068e ∈ zT := zT_2 83 (by decide +kernel) rfl
theorem kc_X3_141 : Cond.constantLong RX3 141 (10) ∈ zT := zT_2 149 (by decide +kernel) rfl
theorem kc_X3_143 : Cond.constantLong RX3 143 (48) ∈ zT := zT_2 150 (by decide +kernel) rfl
theorem kc_X3_147 : Cond.constantLong RX3 147 (4294967296) ∈ zT := zT_2 151 (by decide +kernel) rfl
theorem kc_X3_149 : Cond.constantLong RX3 149 (1048576) ∈ zT := zT_2 152 (by decide +kernel) rfl
theorem km_X3_151 : Cond.methodLink RX3 151 yX5_of ∈ zT := zT_2 153 (by decide +kernel) rfl
theorem kc_X4_13 : Cond.constantLong RX4 13 (4294967296) ∈ zT := zT_3 37 (by decide +kernel) rfl
theorem km_X4_15 : Cond.methodLink RX4 15 yX5_highOf ∈ zT := zT_3 38 (by decide +kernel) rfl
theorem kc_X4_19 : Cond.constantLong RX4 19 (7994000) ∈ zT := zT_3 39 (by decide +kernel) rfl
theorem km_X4_21 : Cond.methodLink RX4 21 yX5_lowOf ∈ zT := zT_3 40 (by decide +kernel) rfl
theorem km_X4_24 : Cond.methodLink RX4 24 yX4_raised ∈ zT := zT_3 41 (by decide +kernel) rfl
theorem km_X4_28 : Cond.methodLink RX4 28 yX5_of ∈ zT := zT_3 51 (by decide +kernel) rfl
theorem kc_X4_32 : Cond.constantLong RX4 32 (-14680064) ∈ zT := zT_3 44 (by decide +kernel) rfl
theorem kc_X4_34 : Cond.constantLong RX4 34 (1048575) ∈ zT := zT_3 45 (by decide +kernel) rfl
theorem kc_X4_36 : Cond.constantLong RX4 36 (16) ∈ zT := zT_3 46 (by decide +kernel) rfl
theorem kc_X4_38 : Cond.constantLong RX4 38 (16777215) ∈ zT := zT_3 47 (by decide +kernel) rfl
theorem kc_X4_40 : Cond.constantLong RX4 40 (16777216) ∈ zT := zT_3 48 (by decide +kernel) rfl
theorem kc_X4_42 : Cond.constantLong RX4 42 (6171992) ∈ zT := zT_3 49 (by decide +kernel) rfl
theorem kc_X4_44 : Cond.constantLong RX4 44 (45605201) ∈ zT := zT_3 50 (by decide +kernel) rfl
theorem km_X4_46 : Cond.methodLink RX4 46 yX4_halved ∈ zT := zT_3 55 (by decide +kernel) rfl
theorem kc_X4_49 : Cond.constantLong RX4 49 (7995393) ∈ zT := zT_3 58 (by decide +kernel) rfl
theorem kc_X4_51 : Cond.constantLong RX4 51 (6815744) ∈ zT := zT_3 62 (by decide +kernel) rfl
theorem kc_X4_53 : Cond.constantLong RX4 53 (-6815744) ∈ zT := zT_3 63 (by decide +kernel) rfl
theorem kc_X4_55 : Cond.constantLong RX4 55 (1048576) ∈ zT := zT_3 64 (by decide +kernel) rfl
theorem kc_X4_57 : Cond.constantLong RX4 57 (-1048576) ∈ zT := zT_3 65 (by decide +kernel) rfl
theorem km_X4_59 : Cond.methodLink RX4 59 Lib.MathLoose.abs_long.x ∈ zT := zT_3 66 (by decide +kernel) rfl
theorem km_X4_64 : Cond.methodLink RX4 64 Lib.MathLoose.max_long.x ∈ zT := zT_3 67 (by decide +kernel) rfl
theorem km_X4_67 : Cond.methodLink RX4 67 Lib.MathLoose.min_long.x ∈ zT := zT_3 68 (by decide +kernel) rfl
theorem kc_X5_9 : Cond.constantLong RX5 9 (-2147483648) ∈ zT := zT_2 156 (by decide +kernel) rfl
theorem kc_X5_11 : Cond.constantLong RX5 11 (2147483647) ∈ zT := zT_2 157 (by decide +kernel) rfl
theorem kc_X5_15 : Cond.constantLong RX5 15 (4294967296) ∈ zT := zT_2 158 (by decide +kernel) rfl
theorem kc_X5_17 : Cond.constantLong RX5 17 (4294967295) ∈ zT := zT_2 159 (by decide +kernel) rfl
theorem km_X5_19 : Cond.methodLink RX5 19 yX5_lowOf ∈ zT := zT_3 3 (by decide +kernel) rfl
theorem km_X5_23 : Cond.methodLink RX5 23 yX5_highOf ∈ zT := zT_3 0 (by decide +kernel) rfl
theorem km_X5_26 : Cond.methodLink RX5 26 yX5_isHole ∈ zT := zT_3 76 (by decide +kernel) rfl
theorem km_X5_30 : Cond.methodLink RX5 30 yX5_of ∈ zT := zT_3 6 (by decide +kernel) rfl
theorem km_X5_34 : Cond.methodLink RX5 34 Lib.MathLoose.min_long.x ∈ zT := zT_3 22 (by decide +kernel) rfl
theorem km_X5_39 : Cond.methodLink RX5 39 Lib.MathLoose.max_long.x ∈ zT := zT_3 25 (by decide +kernel) rfl
theorem km_X5_42 : Cond.methodLink RX5 42 yX5_hasNoZero ∈ zT := zT_3 94 (by decide +kernel) rfl
theorem km_X5_46 : Cond.methodLink RX5 46 yJ9_floorDiv_f86c9 ∈ zT := zT_3 97 (by decide +kernel) rfl
theorem km_X5_49 : Cond.methodLink RX5 49 yX5_grownUp ∈ zT := zT_3 10 (by decide +kernel) rfl
theorem km_X5_52 : Cond.methodLink RX5 52 yX5_grownDown ∈ zT := zT_3 16 (by decide +kernel) rfl
theorem km_X5_55 : Cond.methodLink RX5 55 Lib.MathLoose.abs_long.x ∈ zT := zT_3 19 (by decide +kernel) rfl
theorem kc_X5_58 : Cond.constantLong RX5 58 (2147483648) ∈ zT := zT_3 13 (by decide +kernel) rfl
theorem kc_X5_60 : Cond.constantLong RX5 60 (1099511627776) ∈ zT := zT_3 15 (by decide +kernel) rfl
theorem kc_X5_62 : Cond.constantLong RX5 62 (1048576) ∈ zT := zT_3 14 (by decide +kernel) rfl
theorem km_X5_64 : Cond.methodLink RX5 64 yX5_turned ∈ zT := zT_3 72 (by decide +kernel) rfl
theorem km_X5_67 : Cond.methodLink RX5 67 yX5_rootDown ∈ zT := zT_3 31 (by decide +kernel) rfl
theorem kf_X6_9 : Cond.fieldLink RX6 9 "ShutBench$Tape" "bytes" "[I" ∈ zT := zT_1 36 (by decide +kernel) rfl
theorem kf_X6_15 : Cond.fieldLink RX6 15 "ShutBench$Tape" "size" "I" ∈ zT := zT_1 37 (by decide +kernel) rfl
theorem kf_X7_9 : Cond.fieldLink RX7 9 "ShutBench$Walker" "waitingEnds" "[I" ∈ zT := zT_1 185 (by decide +kernel) rfl
theorem kf_X7_13 : Cond.fieldLink RX7 13 "ShutBench$Walker" "begins" "[I" ∈ zT := zT_1 186 (by decide +kernel) rfl
theorem kf_X7_16 : Cond.fieldLink RX7 16 "ShutBench$Walker" "ends" "[I" ∈ zT := zT_1 187 (by decide +kernel) rfl
theorem kf_X7_19 : Cond.fieldLink RX7 19 "ShutBench$Walker" "whats" "[I" ∈ zT := zT_1 188 (by decide +kernel) rfl
theorem kf_X7_22 : Cond.fieldLink RX7 22 "ShutBench$Walker" "told" "I" ∈ zT := zT_1 190 (by decide +kernel) rfl
theorem kf_X7_26 : Cond.fieldLink RX7 26 "ShutBench$Walker" "waiting" "I" ∈ zT := zT_1 189 (by decide +kernel) rfl
theorem km_X7_29 : Cond.methodLink RX7 29 yX7_await ∈ zT := zT_3 185 (by decide +kernel) rfl
theorem kc_X7_33 : Cond.constantLong RX7 33 (17179869184) ∈ zT := zT_3 189 (by decide +kernel) rfl
theorem km_X7_35 : Cond.methodLink RX7 35 yX7_firstEnd ∈ zT := zT_3 190 (by decide +kernel) rfl
theorem km_X7_39 : Cond.methodLink RX7 39 yX7_lookAt ∈ zT := zT_3 194 (by decide +kernel) rfl
theorem km_X7_49 : Cond.methodLink RX7 49 yX7_keep ∈ zT := zT_3 201 (by decide +kernel) rfl
theorem km_X7_53 : Cond.methodLink RX7 53 yX1_measure ∈ zT := zT_3 197 (by decide +kernel) rfl
theorem km_X7_59 : Cond.methodLink RX7 59 yX5_hasNoZero ∈ zT := zT_3 198 (by decide +kernel) rfl
theorem kf_X7_65 : Cond.fieldLink RX7 65 "ShutBench$Gauge" "steepness" "J" ∈ zT := zT_1 125 (by decide +kernel) rfl
theorem km_X7_69 : Cond.methodLink RX7 69 yX5_lowOf ∈ zT := zT_3 199 (by decide +kernel) rfl
theorem kf_X7_73 : Cond.fieldLink RX7 73 "ShutBench$Walker" "looks" "I" ∈ zT := zT_1 192 (by decide +kernel) rfl
theorem km_X7_76 : Cond.methodLink RX7 76 yX7_isAbove ∈ zT := zT_4 3 (by decide +kernel) rfl
theorem km_X7_80 : Cond.methodLink RX7 80 yX7_breaks ∈ zT := zT_4 7 (by decide +kernel) rfl
theorem kc_X7_84 : Cond.constantLong RX7 84 (2) ∈ zT := zT_4 16 (by decide +kernel) rfl
theorem kc_X7_86 : Cond.constantLong RX7 86 (4294967296) ∈ zT := zT_4 6 (by decide +kernel) rfl
theorem km_X7_88 : Cond.methodLink RX7 88 yX7_breaksAt ∈ zT := zT_4 11 (by decide +kernel) rfl
theorem kf_X7_92 : Cond.fieldLink RX7 92 "ShutBench$Walker" "place" "I" ∈ zT := zT_1 194 (by decide +kernel) rfl
theorem km_X7_95 : Cond.methodLink RX7 95 yX5_highOf ∈ zT := zT_4 15 (by decide +kernel) rfl
theorem kf_X8_10 : Cond.fieldLink RX8 10 "ShutBench" "reader" "LShutBench$Reader;" ∈ zT := zT_1 213 (by decide +kernel) rfl
theorem km_X8_18 : Cond.methodLink RX8 18 yX1_init ∈ zT := zT_1 105 (by decide +kernel) rfl
theorem kf_X8_19 : Cond.fieldLink RX8 19 "ShutBench" "gauge" "LShutBench$Gauge;" ∈ zT := zT_1 214 (by decide +kernel) rfl
theorem kf_X8_26 : Cond.fieldLink RX8 26 "ShutBench" "halver" "LShutBench$Halver;" ∈ zT := zT_1 215 (by decide +kernel) rfl
theorem kf_X8_33 : Cond.fieldLink RX8 33 "ShutBench" "walker" "LShutBench$Walker;" ∈ zT := zT_1 216 (by decide +kernel) rfl
theorem kf_X8_37 : Cond.fieldLink RX8 37 "ShutBench$Reader" "tape" "LShutBench$Tape;" ∈ zT := zT_1 83 (by decide +kernel) rfl
theorem kf_X8_41 : Cond.fieldLink RX8 41 "ShutBench$Tape" "size" "I" ∈ zT := zT_1 38 (by decide +kernel) rfl
theorem km_X8_47 : Cond.methodLink RX8 47 yX6_take ∈ zT := zT_2 2 (by decide +kernel) rfl
theorem kf_X8_51 : Cond.fieldLink RX8 51 "ShutBench$Gauge" "curveCount" "I" ∈ zT := zT_1 122 (by decide +kernel) rfl
theorem km_X8_54 : Cond.methodLink RX8 54 yX3_read ∈ zT := zT_2 14 (by decide +kernel) rfl
theorem kf_X8_58 : Cond.fieldLink RX8 58 "ShutBench$Reader" "draft" "LShutBench$Curve;" ∈ zT := zT_1 85 (by decide +kernel) rfl
theorem km_X8_62 : Cond.methodLink RX8 62 yX1_keep ∈ zT := zT_2 168 (by decide +kernel) rfl
theorem km_X8_66 : Cond.methodLink RX8 66 yX1_has ∈ zT := zT_2 216 (by decide +kernel) rfl
theorem km_X8_70 : Cond.methodLink RX8 70 yX1_curveAt ∈ zT := zT_2 220 (by decide +kernel) rfl
theorem kf_X8_74 : Cond.fieldLink RX8 74 "ShutBench$Curve" "acts" "I" ∈ zT := zT_1 60 (by decide +kernel) rfl
theorem kf_X8_79 : Cond.fieldLink RX8 79 "ShutBench$Curve" "smooth" "Z" ∈ zT := zT_1 62 (by decide +kernel) rfl
theorem kf_X8_83 : Cond.fieldLink RX8 83 "ShutBench$Curve" "degree" "I" ∈ zT := zT_1 64 (by decide +kernel) rfl
theorem km_X8_86 : Cond.methodLink RX8 86 yX1_measure ∈ zT := zT_2 225 (by decide +kernel) rfl
theorem km_X8_90 : Cond.methodLink RX8 90 yX8_tell ∈ zT := zT_3 123 (by decide +kernel) rfl
theorem kf_X8_94 : Cond.fieldLink RX8 94 "ShutBench$Gauge" "steepness" "J" ∈ zT := zT_1 126 (by decide +kernel) rfl
theorem kc_X8_98 : Cond.constantLong RX8 98 (1073741824) ∈ zT := zT_3 138 (by decide +kernel) rfl
theorem km_X8_100 : Cond.methodLink RX8 100 yX8_isHalvings ∈ zT := zT_3 139 (by decide +kernel) rfl
theorem km_X8_103 : Cond.methodLink RX8 103 yX2_sumUp ∈ zT := zT_3 142 (by decide +kernel) rfl
theorem km_X8_107 : Cond.methodLink RX8 107 yX8_tellHalved ∈ zT := zT_3 173 (by decide +kernel) rfl
theorem km_X8_111 : Cond.methodLink RX8 111 yX7_seekRoots ∈ zT := zT_3 181 (by decide +kernel) rfl
theorem kf_X8_115 : Cond.fieldLink RX8 115 "ShutBench$Walker" "told" "I" ∈ zT := zT_1 191 (by decide +kernel) rfl
theorem km_X8_118 : Cond.methodLink RX8 118 yX7_tellPart ∈ zT := zT_3 209 (by decide +kernel) rfl
theorem km_X8_122 : Cond.methodLink RX8 122 yX2_seekLeast ∈ zT := zT_3 217 (by decide +kernel) rfl
theorem km_X8_126 : Cond.methodLink RX8 126 yX7_seekBreak ∈ zT := zT_3 239 (by decide +kernel) rfl
theorem kf_X8_130 : Cond.fieldLink RX8 130 "ShutBench$Walker" "looks" "I" ∈ zT := zT_1 193 (by decide +kernel) rfl
theorem kf_X8_133 : Cond.fieldLink RX8 133 "ShutBench" "lookCount" "I" ∈ zT := zT_1 220 (by decide +kernel) rfl
theorem kf_X8_136 : Cond.fieldLink RX8 136 "ShutBench$Walker" "place" "I" ∈ zT := zT_1 195 (by decide +kernel) rfl
theorem kf_X8_139 : Cond.fieldLink RX8 139 "ShutBench" "low" "J" ∈ zT := zT_1 217 (by decide +kernel) rfl
theorem kf_X8_142 : Cond.fieldLink RX8 142 "ShutBench" "high" "J" ∈ zT := zT_1 218 (by decide +kernel) rfl
theorem kf_X8_145 : Cond.fieldLink RX8 145 "ShutBench" "partCount" "I" ∈ zT := zT_1 219 (by decide +kernel) rfl
theorem kc_X8_150 : Cond.constantLong RX8 150 (4294967296) ∈ zT := zT_3 127 (by decide +kernel) rfl
theorem km_X8_152 : Cond.methodLink RX8 152 yX5_lowOf ∈ zT := zT_3 128 (by decide +kernel) rfl
theorem km_X8_156 : Cond.methodLink RX8 156 yX5_highOf ∈ zT := zT_3 129 (by decide +kernel) rfl
theorem kf_X8_159 : Cond.fieldLink RX8 159 "ShutBench$Halver" "foundHigh" "J" ∈ zT := zT_1 163 (by decide +kernel) rfl
theorem kf_X8_162 : Cond.fieldLink RX8 162 "ShutBench$Halver" "foundLow" "J" ∈ zT := zT_1 161 (by decide +kernel) rfl
theorem kf_X8_165 : Cond.fieldLink RX8 165 "ShutBench$Halver" "parts" "I" ∈ zT := zT_1 159 (by decide +kernel) rfl
theorem kf_X9_7 : Cond.fieldLink RX9 7 "ShutBenchModel" "tape" "[B" ∈ zT := zT_4 35 (by decide +kernel) rfl
theorem kf_X9_13 : Cond.fieldLink RX9 13 "ShutBenchModel" "acts" "[I" ∈ zT := zT_4 38 (by decide +kernel) rfl
theorem kf_X9_17 : Cond.fieldLink RX9 17 "ShutBenchModel" "op" "[I" ∈ zT := zT_4 39 (by decide +kernel) rfl
theorem kf_X9_20 : Cond.fieldLink RX9 20 "ShutBenchModel" "first" "[I" ∈ zT := zT_4 40 (by decide +kernel) rfl
theorem kf_X9_23 : Cond.fieldLink RX9 23 "ShutBenchModel" "second" "[I" ∈ zT := zT_4 41 (by decide +kernel) rfl
theorem kf_X9_26 : Cond.fieldLink RX9 26 "ShutBenchModel" "numberLow" "[J" ∈ zT := zT_4 42 (by decide +kernel) rfl
theorem kf_X9_30 : Cond.fieldLink RX9 30 "ShutBenchModel" "numberHigh" "[J" ∈ zT := zT_4 43 (by decide +kernel) rfl
theorem kf_X9_33 : Cond.fieldLink RX9 33 "ShutBenchModel" "smooth" "[I" ∈ zT := zT_4 50 (by decide +kernel) rfl
theorem kf_X9_36 : Cond.fieldLink RX9 36 "ShutBenchModel" "degreeOf" "[I" ∈ zT := zT_4 51 (by decide +kernel) rfl
theorem kf_X9_39 : Cond.fieldLink RX9 39 "ShutBenchModel" "degree" "[I" ∈ zT := zT_4 52 (by decide +kernel) rfl
theorem kf_X9_42 : Cond.fieldLink RX9 42 "ShutBenchModel" "vLow" "[J" ∈ zT := zT_4 57 (by decide +kernel) rfl
theorem kf_X9_45 : Cond.fieldLink RX9 45 "ShutBenchModel" "vHigh" "[J" ∈ zT := zT_4 58 (by decide +kernel) rfl
theorem kf_X9_48 : Cond.fieldLink RX9 48 "ShutBenchModel" "sLow" "[J" ∈ zT := zT_4 59 (by decide +kernel) rfl
theorem kf_X9_51 : Cond.fieldLink RX9 51 "ShutBenchModel" "sHigh" "[J" ∈ zT := zT_4 60 (by decide +kernel) rfl
theorem kf_X9_54 : Cond.fieldLink RX9 54 "ShutBenchModel" "vHole" "[Z" ∈ zT := zT_4 61 (by decide +kernel) rfl
theorem kf_X9_58 : Cond.fieldLink RX9 58 "ShutBenchModel" "sHole" "[Z" ∈ zT := zT_4 62 (by decide +kernel) rfl
theorem kf_X9_61 : Cond.fieldLink RX9 61 "ShutBenchModel" "from" "[J" ∈ zT := zT_4 68 (by decide +kernel) rfl
theorem kf_X9_64 : Cond.fieldLink RX9 64 "ShutBenchModel" "to" "[J" ∈ zT := zT_4 69 (by decide +kernel) rfl
theorem kf_X9_67 : Cond.fieldLink RX9 67 "ShutBenchModel" "partLow" "[J" ∈ zT := zT_4 70 (by decide +kernel) rfl
theorem kf_X9_70 : Cond.fieldLink RX9 70 "ShutBenchModel" "partHigh" "[J" ∈ zT := zT_4 71 (by decide +kernel) rfl
theorem kf_X9_73 : Cond.fieldLink RX9 73 "ShutBenchModel" "toldFrom" "[J" ∈ zT := zT_4 75 (by decide +kernel) rfl
theorem kf_X9_76 : Cond.fieldLink RX9 76 "ShutBenchModel" "toldTo" "[J" ∈ zT := zT_4 76 (by decide +kernel) rfl
theorem kf_X9_79 : Cond.fieldLink RX9 79 "ShutBenchModel" "toldWhat" "[I" ∈ zT := zT_4 77 (by decide +kernel) rfl
theorem kf_X9_86 : Cond.fieldLink RX9 86 "ShutBenchModel" "taped" "I" ∈ zT := zT_4 36 (by decide +kernel) rfl
theorem km_X9_89 : Cond.methodLink RX9 89 yX9_put ∈ zT := zT_4 172 (by decide +kernel) rfl
theorem kf_X9_93 : Cond.fieldLink RX9 93 "ShutBenchModel" "fault" "I" ∈ zT := zT_4 45 (by decide +kernel) rfl
theorem kf_X9_96 : Cond.fieldLink RX9 96 "ShutBenchModel" "place" "I" ∈ zT := zT_4 46 (by decide +kernel) rfl
theorem kf_X9_99 : Cond.fieldLink RX9 99 "ShutBenchModel" "at" "I" ∈ zT := zT_4 44 (by decide +kernel) rfl
theorem kf_X9_102 : Cond.fieldLink RX9 102 "ShutBenchModel" "acts60" "I" ∈ zT := zT_4 49 (by decide +kernel) rfl
theorem km_X9_105 : Cond.methodLink RX9 105 yX9_fails ∈ zT := zT_4 204 (by decide +kernel) rfl
theorem km_X9_109 : Cond.methodLink RX9 109 yX9_bad ∈ zT := zT_4 208 (by decide +kernel) rfl
theorem kf_X9_113 : Cond.fieldLink RX9 113 "ShutBenchModel" "curves" "I" ∈ zT := zT_4 37 (by decide +kernel) rfl
theorem kf_X9_116 : Cond.fieldLink RX9 116 "ShutBenchModel" "made" "I" ∈ zT := zT_4 47 (by decide +kernel) rfl
theorem km_X9_119 : Cond.methodLink RX9 119 yX9_term ∈ zT := zT_4 188 (by decide +kernel) rfl
theorem km_X9_123 : Cond.methodLink RX9 123 yX9_peek ∈ zT := zT_4 196 (by decide +kernel) rfl
theorem km_X9_126 : Cond.methodLink RX9 126 yX9_meets ∈ zT := zT_4 200 (by decide +kernel) rfl
theorem km_X9_129 : Cond.methodLink RX9 129 yX9_make ∈ zT := zT_4 231 (by decide +kernel) rfl
theorem km_X9_133 : Cond.methodLink RX9 133 yX9_power ∈ zT := zT_4 192 (by decide +kernel) rfl
theorem km_X9_136 : Cond.methodLink RX9 136 yX9_part ∈ zT := zT_4 212 (by decide +kernel) rfl
theorem km_X9_139 : Cond.methodLink RX9 139 yX9_isDigit ∈ zT := zT_4 220 (by decide +kernel) rfl
theorem km_X9_143 : Cond.methodLink RX9 143 yJ0_length_8abf5 ∈ zT := zT_4 229 (by decide +kernel) rfl
theorem km_X9_148 : Cond.methodLink RX9 148 yJ0_charAt_5068e ∈ zT := zT_4 230 (by decide +kernel) rfl
theorem km_X9_168 : Cond.methodLink RX9 168 yX9_opens ∈ zT := zT_5 12 (by decide +kernel) rfl
theorem kf_X9_171 : Cond.fieldLink RX9 171 "ShutBenchModel" "open" "I" ∈ zT := zT_4 48 (by decide +kernel) rfl
theorem km_X9_174 : Cond.methodLink RX9 174 yX9_wordEnd ∈ zT := zT_4 216 (by decide +kernel) rfl
theorem km_X9_179 : Cond.methodLink RX9 179 yX9_stands ∈ zT := zT_4 225 (by decide +kernel) rfl
theorem km_X9_183 : Cond.methodLink RX9 183 yX9_isNumber ∈ zT := zT_4 235 (by decide +kernel) rfl
theorem km_X9_186 : Cond.methodLink RX9 186 yX9_number ∈ zT := zT_4 239 (by decide +kernel) rfl
theorem km_X9_189 : Cond.methodLink RX9 189 yX9_sum ∈ zT := zT_4 184 (by decide +kernel) rfl
theorem km_X9_192 : Cond.methodLink RX9 192 yX9_need ∈ zT := zT_5 16 (by decide +kernel) rfl
theorem km_X9_195 : Cond.methodLink RX9 195 yX9_nameOf ∈ zT := zT_5 20 (by decide +kernel) rfl
theorem km_X9_199 : Cond.methodLink RX9 199 yX9_named ∈ zT := zT_5 32 (by decide +kernel) rfl
theorem kc_X9_203 : Cond.constantLong RX9 203 (10) ∈ zT := zT_5 3 (by decide +kernel) rfl
theorem kc_X9_205 : Cond.constantLong RX9 205 (48) ∈ zT := zT_5 4 (by decide +kernel) rfl
theorem kc_X9_207 : Cond.constantLong RX9 207 (1048576) ∈ zT := zT_5 5 (by decide +kernel) rfl
theorem km_X9_209 : Cond.methodLink RX9 209 yX9_down ∈ zT := zT_5 6 (by decide +kernel) rfl
theorem km_X9_213 : Cond.methodLink RX9 213 yX9_up ∈ zT := zT_5 9 (by decide +kernel) rfl
theorem km_X9_216 : Cond.methodLink RX9 216 yX9_has ∈ zT := zT_5 44 (by decide +kernel) rfl
theorem km_X9_219 : Cond.methodLink RX9 219 yX9_looks ∈ zT := zT_5 48 (by decide +kernel) rfl
theorem kf_X9_222 : Cond.fieldLink RX9 222 "ShutBenchModel" "low" "J" ∈ zT := zT_4 53 (by decide +kernel) rfl
theorem kf_X9_226 : Cond.fieldLink RX9 226 "ShutBenchModel" "high" "J" ∈ zT := zT_4 54 (by decide +kernel) rfl
theorem kc_X9_229 : Cond.constantLong RX9 229 (-2147483648) ∈ zT := zT_5 76 (by decide +kernel) rfl
theorem kc_X9_231 : Cond.constantLong RX9 231 (2147483647) ∈ zT := zT_5 77 (by decide +kernel) rfl
theorem kf_X9_233 : Cond.fieldLink RX9 233 "ShutBenchModel" "hole" "Z" ∈ zT := zT_4 55 (by decide +kernel) rfl
theorem km_X9_237 : Cond.methodLink RX9 237 yX9_less ∈ zT := zT_5 91 (by decide +kernel) rfl
theorem km_X9_240 : Cond.methodLink RX9 240 yX9_more ∈ zT := zT_5 94 (by decide +kernel) rfl
theorem km_X9_243 : Cond.methodLink RX9 243 yX9_is ∈ zT := zT_5 72 (by decide +kernel) rfl
theorem km_X9_247 : Cond.methodLink RX9 247 yX9_isHole ∈ zT := zT_5 78 (by decide +kernel) rfl
theorem kf_X9_250 : Cond.fieldLink RX9 250 "ShutBenchModel" "isOver" "Z" ∈ zT := zT_4 56 (by decide +kernel) rfl
theorem kc_X9_253 : Cond.constantLong RX9 253 (2147483648) ∈ zT := zT_5 90 (by decide +kernel) rfl
theorem km_X9_255 : Cond.methodLink RX9 255 yX9_size ∈ zT := zT_5 86 (by decide +kernel) rfl
theorem kc_X9_258 : Cond.constantLong RX9 258 (67108864) ∈ zT := zT_5 112 (by decide +kernel) rfl
theorem km_X9_260 : Cond.methodLink RX9 260 yX9_rootDown ∈ zT := zT_5 109 (by decide +kernel) rfl
theorem kc_X9_264 : Cond.constantLong RX9 264 (-14680064) ∈ zT := zT_5 121 (by decide +kernel) rfl
theorem kc_X9_266 : Cond.constantLong RX9 266 (16) ∈ zT := zT_5 122 (by decide +kernel) rfl
theorem kc_X9_268 : Cond.constantLong RX9 268 (16777216) ∈ zT := zT_5 123 (by decide +kernel) rfl
theorem km_X9_270 : Cond.methodLink RX9 270 yX9_cut ∈ zT := zT_5 124 (by decide +kernel) rfl
theorem kc_X9_274 : Cond.constantLong RX9 274 (45605202) ∈ zT := zT_5 127 (by decide +kernel) rfl
theorem kc_X9_276 : Cond.constantLong RX9 276 (45605201) ∈ zT := zT_5 128 (by decide +kernel) rfl
theorem kc_X9_278 : Cond.constantLong RX9 278 (6171993) ∈ zT := zT_5 129 (by decide +kernel) rfl
theorem kc_X9_280 : Cond.constantLong RX9 280 (6171992) ∈ zT := zT_5 130 (by decide +kernel) rfl
theorem kc_X9_282 : Cond.constantLong RX9 282 (7994000) ∈ zT := zT_5 117 (by decide +kernel) rfl
theorem km_X9_284 : Cond.methodLink RX9 284 yX9_power__ ∈ zT := zT_5 118 (by decide +kernel) rfl
theorem km_X9_287 : Cond.methodLink RX9 287 yX9_halved ∈ zT := zT_5 135 (by decide +kernel) rfl
theorem kc_X9_290 : Cond.constantLong RX9 290 (7995393) ∈ zT := zT_5 139 (by decide +kernel) rfl
theorem kc_X9_292 : Cond.constantLong RX9 292 (2) ∈ zT := zT_5 138 (by decide +kernel) rfl
theorem kc_X9_294 : Cond.constantLong RX9 294 (6815744) ∈ zT := zT_5 144 (by decide +kernel) rfl
theorem kc_X9_296 : Cond.constantLong RX9 296 (-6815744) ∈ zT := zT_5 145 (by decide +kernel) rfl
theorem kc_X9_298 : Cond.constantLong RX9 298 (-1048576) ∈ zT := zT_5 146 (by decide +kernel) rfl
theorem kc_X9_300 : Cond.constantLong RX9 300 (-1) ∈ zT := zT_5 147 (by decide +kernel) rfl
theorem km_X9_302 : Cond.methodLink RX9 302 yX9_lastOf ∈ zT := zT_5 64 (by decide +kernel) rfl
theorem km_X9_305 : Cond.methodLink RX9 305 yX9_value ∈ zT := zT_5 68 (by decide +kernel) rfl
theorem km_X9_309 : Cond.methodLink RX9 309 yX9_keepValue ∈ zT := zT_5 152 (by decide +kernel) rfl
theorem km_X9_312 : Cond.methodLink RX9 312 yX9_power_ ∈ zT := zT_5 82 (by decide +kernel) rfl
theorem km_X9_315 : Cond.methodLink RX9 315 yX9_times ∈ zT := zT_5 97 (by decide +kernel) rfl
theorem km_X9_319 : Cond.methodLink RX9 319 yX9_by ∈ zT := zT_5 101 (by decide +kernel) rfl
theorem km_X9_322 : Cond.methodLink RX9 322 yX9_root ∈ zT := zT_5 105 (by decide +kernel) rfl
theorem km_X9_324 : Cond.methodLink RX9 324 yX9_exp ∈ zT := zT_5 113 (by decide +kernel) rfl
theorem km_X9_326 : Cond.methodLink RX9 326 yX9_log ∈ zT := zT_5 131 (by decide +kernel) rfl
theorem km_X9_328 : Cond.methodLink RX9 328 yX9_wave ∈ zT := zT_5 140 (by decide +kernel) rfl
theorem km_X9_332 : Cond.methodLink RX9 332 yX9_size_ ∈ zT := zT_5 148 (by decide +kernel) rfl
theorem km_X9_334 : Cond.methodLink RX9 334 yX9_values ∈ zT := zT_5 60 (by decide +kernel) rfl
theorem km_X9_337 : Cond.methodLink RX9 337 yX9_slope ∈ zT := zT_5 172 (by decide +kernel) rfl
theorem km_X9_340 : Cond.methodLink RX9 340 yX9_chosen ∈ zT := zT_5 176 (by decide +kernel) rfl
theorem km_X9_344 : Cond.methodLink RX9 344 yX9_products ∈ zT := zT_5 180 (by decide +kernel) rfl
theorem km_X9_347 : Cond.methodLink RX9 347 yX9_thenTimes ∈ zT := zT_5 184 (by decide +kernel) rfl
theorem kc_X9_350 : Cond.constantLong RX9 350 (2097152) ∈ zT := zT_5 188 (by decide +kernel) rfl
theorem km_X9_352 : Cond.methodLink RX9 352 yX9_sizes ∈ zT := zT_5 189 (by decide +kernel) rfl
theorem kf_X9_355 : Cond.fieldLink RX9 355 "ShutBenchModel" "itsLow" "J" ∈ zT := zT_4 63 (by decide +kernel) rfl
theorem kf_X9_358 : Cond.fieldLink RX9 358 "ShutBenchModel" "itsHigh" "J" ∈ zT := zT_4 64 (by decide +kernel) rfl
theorem km_X9_361 : Cond.methodLink RX9 361 yX9_slopes ∈ zT := zT_5 168 (by decide +kernel) rfl
theorem kf_X9_364 : Cond.fieldLink RX9 364 "ShutBenchModel" "toldLow" "J" ∈ zT := zT_4 65 (by decide +kernel) rfl
theorem kf_X9_367 : Cond.fieldLink RX9 367 "ShutBenchModel" "toldHigh" "J" ∈ zT := zT_4 66 (by decide +kernel) rfl
theorem km_X9_370 : Cond.methodLink RX9 370 yX9_shut ∈ zT := zT_5 56 (by decide +kernel) rfl
theorem km_X9_374 : Cond.methodLink RX9 374 yX9_tells ∈ zT := zT_5 156 (by decide +kernel) rfl
theorem km_X9_378 : Cond.methodLink RX9 378 yX9_shutSlope ∈ zT := zT_5 164 (by decide +kernel) rfl
theorem kf_X9_381 : Cond.fieldLink RX9 381 "ShutBenchModel" "parts" "I" ∈ zT := zT_4 67 (by decide +kernel) rfl
theorem kc_X9_384 : Cond.constantLong RX9 384 (8388608) ∈ zT := zT_5 202 (by decide +kernel) rfl
theorem kc_X9_386 : Cond.constantLong RX9 386 (1073741824) ∈ zT := zT_5 197 (by decide +kernel) rfl
theorem km_X9_388 : Cond.methodLink RX9 388 yX9_sumOf ∈ zT := zT_5 198 (by decide +kernel) rfl
theorem km_X9_392 : Cond.methodLink RX9 392 yX9_halve ∈ zT := zT_5 203 (by decide +kernel) rfl
theorem kf_X9_395 : Cond.fieldLink RX9 395 "ShutBenchModel" "partsOfArea" "I" ∈ zT := zT_4 72 (by decide +kernel) rfl
theorem km_X9_398 : Cond.methodLink RX9 398 yX9_signOf ∈ zT := zT_5 215 (by decide +kernel) rfl
theorem kf_X9_402 : Cond.fieldLink RX9 402 "ShutBenchModel" "told" "I" ∈ zT := zT_4 74 (by decide +kernel) rfl
theorem km_X9_405 : Cond.methodLink RX9 405 yX9_looked ∈ zT := zT_5 211 (by decide +kernel) rfl
theorem km_X9_409 : Cond.methodLink RX9 409 yX9_shutOf ∈ zT := zT_5 235 (by decide +kernel) rfl
theorem km_X9_413 : Cond.methodLink RX9 413 yX9_lowOf ∈ zT := zT_5 231 (by decide +kernel) rfl
theorem km_X9_417 : Cond.methodLink RX9 417 yX9_least ∈ zT := zT_5 239 (by decide +kernel) rfl
theorem km_X9_420 : Cond.methodLink RX9 420 yX9_extreme ∈ zT := zT_5 227 (by decide +kernel) rfl
theorem kf_X9_424 : Cond.fieldLink RX9 424 "ShutBenchModel" "partsOfNever" "I" ∈ zT := zT_4 73 (by decide +kernel) rfl
theorem km_X9_427 : Cond.methodLink RX9 427 yX9_isNotAbove ∈ zT := zT_6 11 (by decide +kernel) rfl
theorem ki_X0 : Cond.initialized RX0 ∈ zT := zT_1 4 (by decide +kernel) rfl
theorem ki_X1 : Cond.initialized RX1 ∈ zT := zT_1 5 (by decide +kernel) rfl
theorem ki_X2 : Cond.initialized RX2 ∈ zT := zT_1 6 (by decide +kernel) rfl
theorem ki_X3 : Cond.initialized RX3 ∈ zT := zT_1 2 (by decide +kernel) rfl
theorem ki_X4 : Cond.initialized RX4 ∈ zT := zT_1 15 (by decide +kernel) rfl
theorem ki_X5 : Cond.initialized RX5 ∈ zT := zT_1 13 (by decide +kernel) rfl
theorem ki_X6 : Cond.initialized RX6 ∈ zT := zT_1 3 (by decide +kernel) rfl
theorem ki_X7 : Cond.initialized RX7 ∈ zT := zT_1 7 (by decide +kernel) rfl
theorem ki_X8 : Cond.initialized RX8 ∈ zT := zT_1 1 (by decide +kernel) rfl
theorem ki_X9 : Cond.initialized RX9 ∈ zT := zT_1 8 (by decide +kernel) rfl
theorem ki_J9 : Cond.initialized RJ9 ∈ zT := zT_1 14 (by decide +kernel) rfl
theorem ki_J0 : Cond.initialized RJ0 ∈ zT := zT_1 9 (by decide +kernel) rfl
theorem ki_J1 : Cond.initialized RJ1 ∈ zT := zT_1 10 (by decide +kernel) rfl
theorem ki_J2 : Cond.initialized RJ2 ∈ zT := zT_1 12 (by decide +kernel) rfl
theorem ki_J3 : Cond.initialized RJ3 ∈ zT := zT_1 11 (by decide +kernel) rfl
theorem ki_L : Cond.initialized RL ∈ zT := zT_1 0 (by decide +kernel) rfl
theorem kx_X0_init : Cond.code yX0_init cX0_init 1 none ∈ zT := zT_1 50 (by decide +kernel) rfl
theorem kn_X0_init : Cond.instanceMethod yX0_init ∈ zT := zT_1 49 (by decide +kernel) rfl
theorem kd_X0_init : zWd yX0_init 0 := by decide +kernel
theorem kx_X0_add : Cond.code yX0_add cX0_add 5 none ∈ zT := zT_2 144 (by decide +kernel) rfl
theorem kn_X0_add : Cond.instanceMethod yX0_add ∈ zT := zT_2 142 (by decide +kernel) rfl
theorem kv_X0_add : Cond.selects RX0 yX0_add yX0_add ∈ zT := zT_2 143 (by decide +kernel) rfl
theorem kd_X0_add : zWd yX0_add 3 := by decide +kernel
theorem kx_X0_copy : Cond.code yX0_copy cX0_copy 3 none ∈ zT := zT_2 179 (by decide +kernel) rfl
theorem kn_X0_copy : Cond.instanceMethod yX0_copy ∈ zT := zT_2 177 (by decide +kernel) rfl
theorem kv_X0_copy : Cond.selects RX0 yX0_copy yX0_copy ∈ zT := zT_2 178 (by decide +kernel) rfl
theorem kd_X0_copy : zWd yX0_copy 1 := by decide +kernel
theorem kx_X0_kindAt : Cond.code yX0_kindAt cX0_kindAt 2 (some .int) ∈ zT := zT_2 196 (by decide +kernel) rfl
theorem kn_X0_kindAt : Cond.instanceMethod yX0_kindAt ∈ zT := zT_2 194 (by decide +kernel) rfl
theorem kv_X0_kindAt : Cond.selects RX0 yX0_kindAt yX0_kindAt ∈ zT := zT_2 195 (by decide +kernel) rfl
theorem kd_X0_kindAt : zWd yX0_kindAt 1 := by decide +kernel
theorem kx_X0_detailAt : Cond.code yX0_detailAt cX0_detailAt 2 (some .long) ∈ zT := zT_2 200 (by decide +kernel) rfl
theorem kn_X0_detailAt : Cond.instanceMethod yX0_detailAt ∈ zT := zT_2 198 (by decide +kernel) rfl
theorem kv_X0_detailAt : Cond.selects RX0 yX0_detailAt yX0_detailAt ∈ zT := zT_2 199 (by decide +kernel) rfl
theorem kd_X0_detailAt : zWd yX0_detailAt 1 := by decide +kernel
theorem kx_X0_leftAt : Cond.code yX0_leftAt cX0_leftAt 2 (some .int) ∈ zT := zT_2 188 (by decide +kernel) rfl
theorem kn_X0_leftAt : Cond.instanceMethod yX0_leftAt ∈ zT := zT_2 186 (by decide +kernel) rfl
theorem kv_X0_leftAt : Cond.selects RX0 yX0_leftAt yX0_leftAt ∈ zT := zT_2 187 (by decide +kernel) rfl
theorem kd_X0_leftAt : zWd yX0_leftAt 1 := by decide +kernel
theorem kx_X1_init : Cond.code yX1_init cX1_init 2 none ∈ zT := zT_1 107 (by decide +kernel) rfl
theorem kn_X1_init : Cond.instanceMethod yX1_init ∈ zT := zT_1 106 (by decide +kernel) rfl
theorem kd_X1_init : zWd yX1_init 0 := by decide +kernel
theorem kx_X1_has : Cond.code yX1_has cX1_has 2 (some .boolean) ∈ zT := zT_2 219 (by decide +kernel) rfl
theorem kn_X1_has : Cond.instanceMethod yX1_has ∈ zT := zT_2 217 (by decide +kernel) rfl
theorem kv_X1_has : Cond.selects RX1 yX1_has yX1_has ∈ zT := zT_2 218 (by decide +kernel) rfl
theorem kd_X1_has : zWd yX1_has 1 := by decide +kernel
theorem kx_X1_curveAt : Cond.code yX1_curveAt cX1_curveAt 3 (some (.object "ShutBench$Curve")) ∈ zT := zT_2 175 (by decide +kernel) rfl
theorem kn_X1_curveAt : Cond.instanceMethod yX1_curveAt ∈ zT := zT_2 173 (by decide +kernel) rfl
theorem kv_X1_curveAt : Cond.selects RX1 yX1_curveAt yX1_curveAt ∈ zT := zT_2 174 (by decide +kernel) rfl
theorem kd_X1_curveAt : zWd yX1_curveAt 1 := by decide +kernel
theorem kx_X1_keep : Cond.code yX1_keep cX1_keep 6 (some .int) ∈ zT := zT_2 171 (by decide +kernel) rfl
theorem kn_X1_keep : Cond.instanceMethod yX1_keep ∈ zT := zT_2 169 (by decide +kernel) rfl
theorem kv_X1_keep : Cond.selects RX1 yX1_keep yX1_keep ∈ zT := zT_2 170 (by decide +kernel) rfl
theorem kd_X1_keep : zWd yX1_keep 1 := by decide +kernel
theorem kx_X1_degreeOf : Cond.code yX1_degreeOf cX1_degreeOf 5 (some .int) ∈ zT := zT_2 184 (by decide +kernel) rfl
theorem kn_X1_degreeOf : Cond.instanceMethod yX1_degreeOf ∈ zT := zT_2 183 (by decide +kernel) rfl
theorem kv_X1_degreeOf : Cond.selects RX1 yX1_degreeOf yX1_degreeOf ∈ zT := zT_p 17 (by decide +kernel) rfl
theorem kd_X1_degreeOf : zWd yX1_degreeOf 2 := by decide +kernel
theorem kx_X1_degreeAt : Cond.code yX1_degreeAt cX1_degreeAt 2 (some .int) ∈ zT := zT_2 192 (by decide +kernel) rfl
theorem kn_X1_degreeAt : Cond.instanceMethod yX1_degreeAt ∈ zT := zT_2 191 (by decide +kernel) rfl
theorem kv_X1_degreeAt : Cond.selects RX1 yX1_degreeAt yX1_degreeAt ∈ zT := zT_p 18 (by decide +kernel) rfl
theorem kd_X1_degreeAt : zWd yX1_degreeAt 1 := by decide +kernel
theorem kx_X1_rowAt : Cond.code yX1_rowAt cX1_rowAt 2 (some .long) ∈ zT := zT_2 236 (by decide +kernel) rfl
theorem ks_X1_rowAt : Cond.static yX1_rowAt ∈ zT := zT_2 235 (by decide +kernel) rfl
theorem kd_X1_rowAt : zWd yX1_rowAt 2 := by decide +kernel
theorem kx_X1_measure : Cond.code yX1_measure cX1_measure 10 (some .long) ∈ zT := zT_2 228 (by decide +kernel) rfl
theorem kn_X1_measure : Cond.instanceMethod yX1_measure ∈ zT := zT_2 226 (by decide +kernel) rfl
theorem kv_X1_measure : Cond.selects RX1 yX1_measure yX1_measure ∈ zT := zT_2 227 (by decide +kernel) rfl
theorem kd_X1_measure : zWd yX1_measure 4 := by decide +kernel
theorem kx_X1_valueOf : Cond.code yX1_valueOf cX1_valueOf 9 (some .long) ∈ zT := zT_2 233 (by decide +kernel) rfl
theorem kn_X1_valueOf : Cond.instanceMethod yX1_valueOf ∈ zT := zT_2 232 (by decide +kernel) rfl
theorem kv_X1_valueOf : Cond.selects RX1 yX1_valueOf yX1_valueOf ∈ zT := zT_p 19 (by decide +kernel) rfl
theorem kd_X1_valueOf : zWd yX1_valueOf 2 := by decide +kernel
theorem kx_X1_leanOf : Cond.code yX1_leanOf cX1_leanOf 13 (some .long) ∈ zT := zT_3 103 (by decide +kernel) rfl
theorem kn_X1_leanOf : Cond.instanceMethod yX1_leanOf ∈ zT := zT_3 102 (by decide +kernel) rfl
theorem kv_X1_leanOf : Cond.selects RX1 yX1_leanOf yX1_leanOf ∈ zT := zT_p 20 (by decide +kernel) rfl
theorem kd_X1_leanOf : zWd yX1_leanOf 2 := by decide +kernel
theorem kx_X1_wholes : Cond.code yX1_wholes cX1_wholes 2 (some .long) ∈ zT := zT_3 106 (by decide +kernel) rfl
theorem ks_X1_wholes : Cond.static yX1_wholes ∈ zT := zT_3 105 (by decide +kernel) rfl
theorem kd_X1_wholes : zWd yX1_wholes 1 := by decide +kernel
theorem kx_X1_leanOfPower : Cond.code yX1_leanOfPower cX1_leanOfPower 6 (some .long) ∈ zT := zT_3 110 (by decide +kernel) rfl
theorem ks_X1_leanOfPower : Cond.static yX1_leanOfPower ∈ zT := zT_3 109 (by decide +kernel) rfl
theorem kd_X1_leanOfPower : zWd yX1_leanOfPower 3 := by decide +kernel
theorem kx_X1_leanOfSize : Cond.code yX1_leanOfSize cX1_leanOfSize 4 (some .long) ∈ zT := zT_3 114 (by decide +kernel) rfl
theorem ks_X1_leanOfSize : Cond.static yX1_leanOfSize ∈ zT := zT_3 113 (by decide +kernel) rfl
theorem kd_X1_leanOfSize : zWd yX1_leanOfSize 2 := by decide +kernel
theorem kx_X2_init : Cond.code yX2_init cX2_init 1 none ∈ zT := zT_1 152 (by decide +kernel) rfl
theorem kn_X2_init : Cond.instanceMethod yX2_init ∈ zT := zT_1 151 (by decide +kernel) rfl
theorem kd_X2_init : zWd yX2_init 0 := by decide +kernel
theorem kx_X2_sumUp : Cond.code yX2_sumUp cX2_sumUp 17 (some .boolean) ∈ zT := zT_3 145 (by decide +kernel) rfl
theorem kn_X2_sumUp : Cond.instanceMethod yX2_sumUp ∈ zT := zT_3 143 (by decide +kernel) rfl
theorem kv_X2_sumUp : Cond.selects RX2 yX2_sumUp yX2_sumUp ∈ zT := zT_3 144 (by decide +kernel) rfl
theorem kd_X2_sumUp : zWd yX2_sumUp 6 := by decide +kernel
theorem kx_X2_sumPart : Cond.code yX2_sumPart cX2_sumPart 20 (some .boolean) ∈ zT := zT_3 149 (by decide +kernel) rfl
theorem kn_X2_sumPart : Cond.instanceMethod yX2_sumPart ∈ zT := zT_3 148 (by decide +kernel) rfl
theorem kv_X2_sumPart : Cond.selects RX2 yX2_sumPart yX2_sumPart ∈ zT := zT_p 22 (by decide +kernel) rfl
theorem kd_X2_sumPart : zWd yX2_sumPart 5 := by decide +kernel
theorem kx_X2_seekLeast : Cond.code yX2_seekLeast cX2_seekLeast 12 (some .boolean) ∈ zT := zT_3 220 (by decide +kernel) rfl
theorem kn_X2_seekLeast : Cond.instanceMethod yX2_seekLeast ∈ zT := zT_3 218 (by decide +kernel) rfl
theorem kv_X2_seekLeast : Cond.selects RX2 yX2_seekLeast yX2_seekLeast ∈ zT := zT_3 219 (by decide +kernel) rfl
theorem kd_X2_seekLeast : zWd yX2_seekLeast 6 := by decide +kernel
theorem kx_X2_sinkPart : Cond.code yX2_sinkPart cX2_sinkPart 12 (some .boolean) ∈ zT := zT_3 224 (by decide +kernel) rfl
theorem kn_X2_sinkPart : Cond.instanceMethod yX2_sinkPart ∈ zT := zT_3 223 (by decide +kernel) rfl
theorem kv_X2_sinkPart : Cond.selects RX2 yX2_sinkPart yX2_sinkPart ∈ zT := zT_p 30 (by decide +kernel) rfl
theorem kd_X2_sinkPart : zWd yX2_sinkPart 6 := by decide +kernel
theorem kx_X2_keep : Cond.code yX2_keep cX2_keep 8 none ∈ zT := zT_3 161 (by decide +kernel) rfl
theorem kn_X2_keep : Cond.instanceMethod yX2_keep ∈ zT := zT_3 160 (by decide +kernel) rfl
theorem kv_X2_keep : Cond.selects RX2 yX2_keep yX2_keep ∈ zT := zT_p 23 (by decide +kernel) rfl
theorem kd_X2_keep : zWd yX2_keep 5 := by decide +kernel
theorem kx_X2_canHalve : Cond.code yX2_canHalve cX2_canHalve 2 (some .boolean) ∈ zT := zT_3 169 (by decide +kernel) rfl
theorem kn_X2_canHalve : Cond.instanceMethod yX2_canHalve ∈ zT := zT_3 168 (by decide +kernel) rfl
theorem kv_X2_canHalve : Cond.selects RX2 yX2_canHalve yX2_canHalve ∈ zT := zT_p 25 (by decide +kernel) rfl
theorem kd_X2_canHalve : zWd yX2_canHalve 1 := by decide +kernel
theorem kx_X2_widest : Cond.code yX2_widest cX2_widest 5 (some .int) ∈ zT := zT_3 165 (by decide +kernel) rfl
theorem kn_X2_widest : Cond.instanceMethod yX2_widest ∈ zT := zT_3 164 (by decide +kernel) rfl
theorem kv_X2_widest : Cond.selects RX2 yX2_widest yX2_widest ∈ zT := zT_p 24 (by decide +kernel) rfl
theorem kd_X2_widest : zWd yX2_widest 0 := by decide +kernel
theorem kx_X2_deepest : Cond.code yX2_deepest cX2_deepest 3 (some .int) ∈ zT := zT_3 230 (by decide +kernel) rfl
theorem kn_X2_deepest : Cond.instanceMethod yX2_deepest ∈ zT := zT_3 229 (by decide +kernel) rfl
theorem kv_X2_deepest : Cond.selects RX2 yX2_deepest yX2_deepest ∈ zT := zT_p 31 (by decide +kernel) rfl
theorem kd_X2_deepest : zWd yX2_deepest 0 := by decide +kernel
theorem kx_X3_init : Cond.code yX3_init cX3_init 1 none ∈ zT := zT_1 28 (by decide +kernel) rfl
theorem kn_X3_init : Cond.instanceMethod yX3_init ∈ zT := zT_1 27 (by decide +kernel) rfl
theorem kd_X3_init : zWd yX3_init 0 := by decide +kernel
theorem kx_X3_read : Cond.code yX3_read cX3_read 2 (some .int) ∈ zT := zT_2 17 (by decide +kernel) rfl
theorem kn_X3_read : Cond.instanceMethod yX3_read ∈ zT := zT_2 15 (by decide +kernel) rfl
theorem kv_X3_read : Cond.selects RX3 yX3_read yX3_read ∈ zT := zT_2 16 (by decide +kernel) rfl
theorem kd_X3_read : zWd yX3_read 1 := by decide +kernel
theorem kx_X3_refuse : Cond.code yX3_refuse cX3_refuse 2 none ∈ zT := zT_2 45 (by decide +kernel) rfl
theorem kn_X3_refuse : Cond.instanceMethod yX3_refuse ∈ zT := zT_2 44 (by decide +kernel) rfl
theorem kv_X3_refuse : Cond.selects RX3 yX3_refuse yX3_refuse ∈ zT := zT_p 5 (by decide +kernel) rfl
theorem kd_X3_refuse : zWd yX3_refuse 1 := by decide +kernel
theorem kx_X3_sign : Cond.code yX3_sign cX3_sign 1 (some .int) ∈ zT := zT_2 33 (by decide +kernel) rfl
theorem kn_X3_sign : Cond.instanceMethod yX3_sign ∈ zT := zT_2 32 (by decide +kernel) rfl
theorem kv_X3_sign : Cond.selects RX3 yX3_sign yX3_sign ∈ zT := zT_p 3 (by decide +kernel) rfl
theorem kd_X3_sign : zWd yX3_sign 0 := by decide +kernel
theorem kx_X3_meet : Cond.code yX3_meet cX3_meet 1 (some .boolean) ∈ zT := zT_2 41 (by decide +kernel) rfl
theorem kn_X3_meet : Cond.instanceMethod yX3_meet ∈ zT := zT_2 40 (by decide +kernel) rfl
theorem kv_X3_meet : Cond.selects RX3 yX3_meet yX3_meet ∈ zT := zT_p 4 (by decide +kernel) rfl
theorem kd_X3_meet : zWd yX3_meet 0 := by decide +kernel
theorem kx_X3_emit : Cond.code yX3_emit cX3_emit 5 none ∈ zT := zT_2 140 (by decide +kernel) rfl
theorem kn_X3_emit : Cond.instanceMethod yX3_emit ∈ zT := zT_2 139 (by decide +kernel) rfl
theorem kv_X3_emit : Cond.selects RX3 yX3_emit yX3_emit ∈ zT := zT_p 13 (by decide +kernel) rfl
theorem kd_X3_emit : zWd yX3_emit 3 := by decide +kernel
theorem kx_X3_sum : Cond.code yX3_sum cX3_sum 5 none ∈ zT := zT_2 21 (by decide +kernel) rfl
theorem kn_X3_sum : Cond.instanceMethod yX3_sum ∈ zT := zT_2 20 (by decide +kernel) rfl
theorem kv_X3_sum : Cond.selects RX3 yX3_sum yX3_sum ∈ zT := zT_p 0 (by decide +kernel) rfl
theorem kd_X3_sum : zWd yX3_sum 1 := by decide +kernel
theorem kx_X3_term : Cond.code yX3_term cX3_term 5 none ∈ zT := zT_2 25 (by decide +kernel) rfl
theorem kn_X3_term : Cond.instanceMethod yX3_term ∈ zT := zT_2 24 (by decide +kernel) rfl
theorem kv_X3_term : Cond.selects RX3 yX3_term yX3_term ∈ zT := zT_p 1 (by decide +kernel) rfl
theorem kd_X3_term : zWd yX3_term 1 := by decide +kernel
theorem kx_X3_power : Cond.code yX3_power cX3_power 4 none ∈ zT := zT_2 29 (by decide +kernel) rfl
theorem kn_X3_power : Cond.instanceMethod yX3_power ∈ zT := zT_2 28 (by decide +kernel) rfl
theorem kv_X3_power : Cond.selects RX3 yX3_power yX3_power ∈ zT := zT_p 2 (by decide +kernel) rfl
theorem kd_X3_power : zWd yX3_power 1 := by decide +kernel
theorem kx_X3_piece : Cond.code yX3_piece cX3_piece 4 none ∈ zT := zT_2 49 (by decide +kernel) rfl
theorem kn_X3_piece : Cond.instanceMethod yX3_piece ∈ zT := zT_2 48 (by decide +kernel) rfl
theorem kv_X3_piece : Cond.selects RX3 yX3_piece yX3_piece ∈ zT := zT_p 6 (by decide +kernel) rfl
theorem kd_X3_piece : zWd yX3_piece 1 := by decide +kernel
theorem kx_X3_inside : Cond.code yX3_inside cX3_inside 2 none ∈ zT := zT_2 167 (by decide +kernel) rfl
theorem kn_X3_inside : Cond.instanceMethod yX3_inside ∈ zT := zT_2 166 (by decide +kernel) rfl
theorem kv_X3_inside : Cond.selects RX3 yX3_inside yX3_inside ∈ zT := zT_p 16 (by decide +kernel) rfl
theorem kd_X3_inside : zWd yX3_inside 1 := by decide +kernel
theorem kx_X3_pass : Cond.code yX3_pass cX3_pass 2 none ∈ zT := zT_2 163 (by decide +kernel) rfl
theorem kn_X3_pass : Cond.instanceMethod yX3_pass ∈ zT := zT_2 162 (by decide +kernel) rfl
theorem kv_X3_pass : Cond.selects RX3 yX3_pass yX3_pass ∈ zT := zT_p 15 (by decide +kernel) rfl
theorem kd_X3_pass : zWd yX3_pass 1 := by decide +kernel
theorem kx_X3_word : Cond.code yX3_word cX3_word 3 (some .int) ∈ zT := zT_2 53 (by decide +kernel) rfl
theorem kn_X3_word : Cond.instanceMethod yX3_word ∈ zT := zT_2 52 (by decide +kernel) rfl
theorem kv_X3_word : Cond.selects RX3 yX3_word yX3_word ∈ zT := zT_p 7 (by decide +kernel) rfl
theorem kd_X3_word : zWd yX3_word 0 := by decide +kernel
theorem kx_X3_curveNumber : Cond.code yX3_curveNumber cX3_curveNumber 1 (some .int) ∈ zT := zT_2 124 (by decide +kernel) rfl
theorem kn_X3_curveNumber : Cond.instanceMethod yX3_curveNumber ∈ zT := zT_2 123 (by decide +kernel) rfl
theorem kv_X3_curveNumber : Cond.selects RX3 yX3_curveNumber yX3_curveNumber ∈ zT := zT_p 11 (by decide +kernel) rfl
theorem kd_X3_curveNumber : zWd yX3_curveNumber 0 := by decide +kernel
theorem kx_X3_kindOf : Cond.code yX3_kindOf cX3_kindOf 3 (some .int) ∈ zT := zT_2 63 (by decide +kernel) rfl
theorem kn_X3_kindOf : Cond.instanceMethod yX3_kindOf ∈ zT := zT_2 62 (by decide +kernel) rfl
theorem kv_X3_kindOf : Cond.selects RX3 yX3_kindOf yX3_kindOf ∈ zT := zT_p 8 (by decide +kernel) rfl
theorem kd_X3_kindOf : zWd yX3_kindOf 1 := by decide +kernel
theorem kx_X3_nameOf : Cond.code yX3_nameOf cX3_nameOf 2 (some .int) ∈ zT := zT_2 128 (by decide +kernel) rfl
theorem kn_X3_nameOf : Cond.instanceMethod yX3_nameOf ∈ zT := zT_2 127 (by decide +kernel) rfl
theorem kv_X3_nameOf : Cond.selects RX3 yX3_nameOf yX3_nameOf ∈ zT := zT_p 12 (by decide +kernel) rfl
theorem kd_X3_nameOf : zWd yX3_nameOf 1 := by decide +kernel
theorem kx_X3_isWord : Cond.code yX3_isWord cX3_isWord 4 (some .boolean) ∈ zT := zT_2 72 (by decide +kernel) rfl
theorem kn_X3_isWord : Cond.instanceMethod yX3_isWord ∈ zT := zT_2 71 (by decide +kernel) rfl
theorem kv_X3_isWord : Cond.selects RX3 yX3_isWord yX3_isWord ∈ zT := zT_p 10 (by decide +kernel) rfl
theorem kd_X3_isWord : zWd yX3_isWord 2 := by decide +kernel
theorem kx_X3_isNumber : Cond.code yX3_isNumber cX3_isNumber 5 (some .boolean) ∈ zT := zT_2 67 (by decide +kernel) rfl
theorem kn_X3_isNumber : Cond.instanceMethod yX3_isNumber ∈ zT := zT_2 66 (by decide +kernel) rfl
theorem kv_X3_isNumber : Cond.selects RX3 yX3_isNumber yX3_isNumber ∈ zT := zT_p 9 (by decide +kernel) rfl
theorem kd_X3_isNumber : zWd yX3_isNumber 1 := by decide +kernel
theorem kx_X3_number : Cond.code yX3_number cX3_number 9 (some .long) ∈ zT := zT_2 148 (by decide +kernel) rfl
theorem kn_X3_number : Cond.instanceMethod yX3_number ∈ zT := zT_2 147 (by decide +kernel) rfl
theorem kv_X3_number : Cond.selects RX3 yX3_number yX3_number ∈ zT := zT_p 14 (by decide +kernel) rfl
theorem kd_X3_number : zWd yX3_number 1 := by decide +kernel
theorem kx_X3_isDigit : Cond.code yX3_isDigit cX3_isDigit 1 (some .boolean) ∈ zT := zT_2 59 (by decide +kernel) rfl
theorem ks_X3_isDigit : Cond.static yX3_isDigit ∈ zT := zT_2 58 (by decide +kernel) rfl
theorem kd_X3_isDigit : zWd yX3_isDigit 1 := by decide +kernel
theorem kx_X3_isWordByte : Cond.code yX3_isWordByte cX3_isWordByte 1 (some .boolean) ∈ zT := zT_2 56 (by decide +kernel) rfl
theorem ks_X3_isWordByte : Cond.static yX3_isWordByte ∈ zT := zT_2 55 (by decide +kernel) rfl
theorem kd_X3_isWordByte : zWd yX3_isWordByte 1 := by decide +kernel
theorem kx_X4_exp : Cond.code yX4_exp cX4_exp 2 (some .long) ∈ zT := zT_3 36 (by decide +kernel) rfl
theorem ks_X4_exp : Cond.static yX4_exp ∈ zT := zT_3 35 (by decide +kernel) rfl
theorem kd_X4_exp : zWd yX4_exp 1 := by decide +kernel
theorem kx_X4_raised : Cond.code yX4_raised cX4_raised 19 (some .long) ∈ zT := zT_3 43 (by decide +kernel) rfl
theorem ks_X4_raised : Cond.static yX4_raised ∈ zT := zT_3 42 (by decide +kernel) rfl
theorem kd_X4_raised : zWd yX4_raised 2 := by decide +kernel
theorem kx_X4_log : Cond.code yX4_log cX4_log 4 (some .long) ∈ zT := zT_3 54 (by decide +kernel) rfl
theorem ks_X4_log : Cond.static yX4_log ∈ zT := zT_3 53 (by decide +kernel) rfl
theorem kd_X4_log : zWd yX4_log 1 := by decide +kernel
theorem kx_X4_halved : Cond.code yX4_halved cX4_halved 10 (some .long) ∈ zT := zT_3 57 (by decide +kernel) rfl
theorem ks_X4_halved : Cond.static yX4_halved ∈ zT := zT_3 56 (by decide +kernel) rfl
theorem kd_X4_halved : zWd yX4_halved 2 := by decide +kernel
theorem kx_X4_wave : Cond.code yX4_wave cX4_wave 26 (some .long) ∈ zT := zT_3 61 (by decide +kernel) rfl
theorem ks_X4_wave : Cond.static yX4_wave ∈ zT := zT_3 60 (by decide +kernel) rfl
theorem kd_X4_wave : zWd yX4_wave 2 := by decide +kernel
theorem kx_X5_of : Cond.code yX5_of cX5_of 4 (some .long) ∈ zT := zT_2 155 (by decide +kernel) rfl
theorem ks_X5_of : Cond.static yX5_of ∈ zT := zT_2 154 (by decide +kernel) rfl
theorem kd_X5_of : zWd yX5_of 2 := by decide +kernel
theorem kx_X5_lowOf : Cond.code yX5_lowOf cX5_lowOf 2 (some .long) ∈ zT := zT_3 5 (by decide +kernel) rfl
theorem ks_X5_lowOf : Cond.static yX5_lowOf ∈ zT := zT_3 4 (by decide +kernel) rfl
theorem kd_X5_lowOf : zWd yX5_lowOf 1 := by decide +kernel
theorem kx_X5_highOf : Cond.code yX5_highOf cX5_highOf 2 (some .long) ∈ zT := zT_3 2 (by decide +kernel) rfl
theorem ks_X5_highOf : Cond.static yX5_highOf ∈ zT := zT_3 1 (by decide +kernel) rfl
theorem kd_X5_highOf : zWd yX5_highOf 1 := by decide +kernel
theorem kx_X5_isHole : Cond.code yX5_isHole cX5_isHole 4 (some .boolean) ∈ zT := zT_3 78 (by decide +kernel) rfl
theorem ks_X5_isHole : Cond.static yX5_isHole ∈ zT := zT_3 77 (by decide +kernel) rfl
theorem kd_X5_isHole : zWd yX5_isHole 2 := by decide +kernel
theorem kx_X5_hasNoZero : Cond.code yX5_hasNoZero cX5_hasNoZero 2 (some .boolean) ∈ zT := zT_3 96 (by decide +kernel) rfl
theorem ks_X5_hasNoZero : Cond.static yX5_hasNoZero ∈ zT := zT_3 95 (by decide +kernel) rfl
theorem kd_X5_hasNoZero : zWd yX5_hasNoZero 1 := by decide +kernel
theorem kx_X5_isApart : Cond.code yX5_isApart cX5_isApart 4 (some .boolean) ∈ zT := zT_3 122 (by decide +kernel) rfl
theorem ks_X5_isApart : Cond.static yX5_isApart ∈ zT := zT_3 121 (by decide +kernel) rfl
theorem kd_X5_isApart : zWd yX5_isApart 2 := by decide +kernel
theorem kx_X5_plus : Cond.code yX5_plus cX5_plus 4 (some .long) ∈ zT := zT_3 84 (by decide +kernel) rfl
theorem ks_X5_plus : Cond.static yX5_plus ∈ zT := zT_3 83 (by decide +kernel) rfl
theorem kd_X5_plus : zWd yX5_plus 2 := by decide +kernel
theorem kx_X5_minus : Cond.code yX5_minus cX5_minus 4 (some .long) ∈ zT := zT_3 87 (by decide +kernel) rfl
theorem ks_X5_minus : Cond.static yX5_minus ∈ zT := zT_3 86 (by decide +kernel) rfl
theorem kd_X5_minus : zWd yX5_minus 2 := by decide +kernel
theorem kx_X5_turned : Cond.code yX5_turned cX5_turned 2 (some .long) ∈ zT := zT_2 239 (by decide +kernel) rfl
theorem ks_X5_turned : Cond.static yX5_turned ∈ zT := zT_2 238 (by decide +kernel) rfl
theorem kd_X5_turned : zWd yX5_turned 1 := by decide +kernel
theorem kx_X5_times : Cond.code yX5_times cX5_times 16 (some .long) ∈ zT := zT_3 90 (by decide +kernel) rfl
theorem ks_X5_times : Cond.static yX5_times ∈ zT := zT_3 89 (by decide +kernel) rfl
theorem kd_X5_times : zWd yX5_times 2 := by decide +kernel
theorem kx_X5_over : Cond.code yX5_over cX5_over 16 (some .long) ∈ zT := zT_3 93 (by decide +kernel) rfl
theorem ks_X5_over : Cond.static yX5_over ∈ zT := zT_3 92 (by decide +kernel) rfl
theorem kd_X5_over : zWd yX5_over 2 := by decide +kernel
theorem kx_X5_power : Cond.code yX5_power cX5_power 12 (some .long) ∈ zT := zT_3 9 (by decide +kernel) rfl
theorem ks_X5_power : Cond.static yX5_power ∈ zT := zT_3 8 (by decide +kernel) rfl
theorem kd_X5_power : zWd yX5_power 2 := by decide +kernel
theorem kx_X5_grownDown : Cond.code yX5_grownDown cX5_grownDown 8 (some .long) ∈ zT := zT_3 18 (by decide +kernel) rfl
theorem ks_X5_grownDown : Cond.static yX5_grownDown ∈ zT := zT_3 17 (by decide +kernel) rfl
theorem kd_X5_grownDown : zWd yX5_grownDown 2 := by decide +kernel
theorem kx_X5_grownUp : Cond.code yX5_grownUp cX5_grownUp 8 (some .long) ∈ zT := zT_3 12 (by decide +kernel) rfl
theorem ks_X5_grownUp : Cond.static yX5_grownUp ∈ zT := zT_3 11 (by decide +kernel) rfl
theorem kd_X5_grownUp : zWd yX5_grownUp 2 := by decide +kernel
theorem kx_X5_size : Cond.code yX5_size cX5_size 2 (some .long) ∈ zT := zT_3 71 (by decide +kernel) rfl
theorem ks_X5_size : Cond.static yX5_size ∈ zT := zT_3 70 (by decide +kernel) rfl
theorem kd_X5_size : zWd yX5_size 1 := by decide +kernel
theorem kx_X5_lesser : Cond.code yX5_lesser cX5_lesser 4 (some .long) ∈ zT := zT_3 75 (by decide +kernel) rfl
theorem ks_X5_lesser : Cond.static yX5_lesser ∈ zT := zT_3 74 (by decide +kernel) rfl
theorem kd_X5_lesser : zWd yX5_lesser 2 := by decide +kernel
theorem kx_X5_greater : Cond.code yX5_greater cX5_greater 4 (some .long) ∈ zT := zT_3 81 (by decide +kernel) rfl
theorem ks_X5_greater : Cond.static yX5_greater ∈ zT := zT_3 80 (by decide +kernel) rfl
theorem kd_X5_greater : zWd yX5_greater 2 := by decide +kernel
theorem kx_X5_together : Cond.code yX5_together cX5_together 4 (some .long) ∈ zT := zT_3 119 (by decide +kernel) rfl
theorem ks_X5_together : Cond.static yX5_together ∈ zT := zT_3 118 (by decide +kernel) rfl
theorem kd_X5_together : zWd yX5_together 2 := by decide +kernel
theorem kx_X5_root : Cond.code yX5_root cX5_root 6 (some .long) ∈ zT := zT_3 30 (by decide +kernel) rfl
theorem ks_X5_root : Cond.static yX5_root ∈ zT := zT_3 29 (by decide +kernel) rfl
theorem kd_X5_root : zWd yX5_root 1 := by decide +kernel
theorem kx_X5_rootDown : Cond.code yX5_rootDown cX5_rootDown 7 (some .long) ∈ zT := zT_3 33 (by decide +kernel) rfl
theorem ks_X5_rootDown : Cond.static yX5_rootDown ∈ zT := zT_3 32 (by decide +kernel) rfl
theorem kd_X5_rootDown : zWd yX5_rootDown 1 := by decide +kernel
theorem kx_X6_init : Cond.code yX6_init cX6_init 1 none ∈ zT := zT_1 34 (by decide +kernel) rfl
theorem kn_X6_init : Cond.instanceMethod yX6_init ∈ zT := zT_1 33 (by decide +kernel) rfl
theorem kd_X6_init : zWd yX6_init 0 := by decide +kernel
theorem kx_X6_take : Cond.code yX6_take cX6_take 3 none ∈ zT := zT_2 5 (by decide +kernel) rfl
theorem kn_X6_take : Cond.instanceMethod yX6_take ∈ zT := zT_2 3 (by decide +kernel) rfl
theorem kv_X6_take : Cond.selects RX6 yX6_take yX6_take ∈ zT := zT_2 4 (by decide +kernel) rfl
theorem kd_X6_take : zWd yX6_take 1 := by decide +kernel
theorem kx_X6_byteAt : Cond.code yX6_byteAt cX6_byteAt 2 (some .int) ∈ zT := zT_2 37 (by decide +kernel) rfl
theorem kn_X6_byteAt : Cond.instanceMethod yX6_byteAt ∈ zT := zT_2 35 (by decide +kernel) rfl
theorem kv_X6_byteAt : Cond.selects RX6 yX6_byteAt yX6_byteAt ∈ zT := zT_2 36 (by decide +kernel) rfl
theorem kd_X6_byteAt : zWd yX6_byteAt 1 := by decide +kernel
theorem kx_X7_init : Cond.code yX7_init cX7_init 1 none ∈ zT := zT_1 183 (by decide +kernel) rfl
theorem kn_X7_init : Cond.instanceMethod yX7_init ∈ zT := zT_1 182 (by decide +kernel) rfl
theorem kd_X7_init : zWd yX7_init 0 := by decide +kernel
theorem kx_X7_seekRoots : Cond.code yX7_seekRoots cX7_seekRoots 12 none ∈ zT := zT_3 184 (by decide +kernel) rfl
theorem kn_X7_seekRoots : Cond.instanceMethod yX7_seekRoots ∈ zT := zT_3 182 (by decide +kernel) rfl
theorem kv_X7_seekRoots : Cond.selects RX7 yX7_seekRoots yX7_seekRoots ∈ zT := zT_3 183 (by decide +kernel) rfl
theorem kd_X7_seekRoots : zWd yX7_seekRoots 5 := by decide +kernel
theorem kx_X7_lookAt : Cond.code yX7_lookAt cX7_lookAt 11 (some .int) ∈ zT := zT_3 196 (by decide +kernel) rfl
theorem ks_X7_lookAt : Cond.static yX7_lookAt ∈ zT := zT_3 195 (by decide +kernel) rfl
theorem kd_X7_lookAt : zWd yX7_lookAt 4 := by decide +kernel
theorem kx_X7_keep : Cond.code yX7_keep cX7_keep 5 none ∈ zT := zT_3 204 (by decide +kernel) rfl
theorem kn_X7_keep : Cond.instanceMethod yX7_keep ∈ zT := zT_3 203 (by decide +kernel) rfl
theorem kv_X7_keep : Cond.selects RX7 yX7_keep yX7_keep ∈ zT := zT_p 29 (by decide +kernel) rfl
theorem kd_X7_keep : zWd yX7_keep 3 := by decide +kernel
theorem kx_X7_tellPart : Cond.code yX7_tellPart cX7_tellPart 3 (some .int) ∈ zT := zT_3 212 (by decide +kernel) rfl
theorem kn_X7_tellPart : Cond.instanceMethod yX7_tellPart ∈ zT := zT_3 210 (by decide +kernel) rfl
theorem kv_X7_tellPart : Cond.selects RX7 yX7_tellPart yX7_tellPart ∈ zT := zT_3 211 (by decide +kernel) rfl
theorem kd_X7_tellPart : zWd yX7_tellPart 2 := by decide +kernel
theorem kx_X7_seekBreak : Cond.code yX7_seekBreak cX7_seekBreak 11 (some .int) ∈ zT := zT_4 2 (by decide +kernel) rfl
theorem kn_X7_seekBreak : Cond.instanceMethod yX7_seekBreak ∈ zT := zT_4 0 (by decide +kernel) rfl
theorem kv_X7_seekBreak : Cond.selects RX7 yX7_seekBreak yX7_seekBreak ∈ zT := zT_4 1 (by decide +kernel) rfl
theorem kd_X7_seekBreak : zWd yX7_seekBreak 6 := by decide +kernel
theorem kx_X7_isAbove : Cond.code yX7_isAbove cX7_isAbove 3 (some .boolean) ∈ zT := zT_4 5 (by decide +kernel) rfl
theorem ks_X7_isAbove : Cond.static yX7_isAbove ∈ zT := zT_4 4 (by decide +kernel) rfl
theorem kd_X7_isAbove : zWd yX7_isAbove 2 := by decide +kernel
theorem kx_X7_breaks : Cond.code yX7_breaks cX7_breaks 6 (some .boolean) ∈ zT := zT_4 10 (by decide +kernel) rfl
theorem kn_X7_breaks : Cond.instanceMethod yX7_breaks ∈ zT := zT_4 9 (by decide +kernel) rfl
theorem kv_X7_breaks : Cond.selects RX7 yX7_breaks yX7_breaks ∈ zT := zT_p 32 (by decide +kernel) rfl
theorem kd_X7_breaks : zWd yX7_breaks 5 := by decide +kernel
theorem kx_X7_breaksAt : Cond.code yX7_breaksAt cX7_breaksAt 7 (some .boolean) ∈ zT := zT_4 14 (by decide +kernel) rfl
theorem kn_X7_breaksAt : Cond.instanceMethod yX7_breaksAt ∈ zT := zT_4 13 (by decide +kernel) rfl
theorem kv_X7_breaksAt : Cond.selects RX7 yX7_breaksAt yX7_breaksAt ∈ zT := zT_p 33 (by decide +kernel) rfl
theorem kd_X7_breaksAt : zWd yX7_breaksAt 4 := by decide +kernel
theorem kx_X7_await : Cond.code yX7_await cX7_await 2 none ∈ zT := zT_3 188 (by decide +kernel) rfl
theorem kn_X7_await : Cond.instanceMethod yX7_await ∈ zT := zT_3 187 (by decide +kernel) rfl
theorem kv_X7_await : Cond.selects RX7 yX7_await yX7_await ∈ zT := zT_p 27 (by decide +kernel) rfl
theorem kd_X7_await : zWd yX7_await 1 := by decide +kernel
theorem kx_X7_firstEnd : Cond.code yX7_firstEnd cX7_firstEnd 1 (some .int) ∈ zT := zT_3 193 (by decide +kernel) rfl
theorem kn_X7_firstEnd : Cond.instanceMethod yX7_firstEnd ∈ zT := zT_3 192 (by decide +kernel) rfl
theorem kv_X7_firstEnd : Cond.selects RX7 yX7_firstEnd yX7_firstEnd ∈ zT := zT_p 28 (by decide +kernel) rfl
theorem kd_X7_firstEnd : zWd yX7_firstEnd 0 := by decide +kernel
theorem kx_X8_init : Cond.code yX8_init cX8_init 1 none ∈ zT := zT_1 20 (by decide +kernel) rfl
theorem kn_X8_init : Cond.instanceMethod yX8_init ∈ zT := zT_1 19 (by decide +kernel) rfl
theorem kd_X8_init : zWd yX8_init 0 := by decide +kernel
theorem kx_X8_feed : Cond.code yX8_feed cX8_feed 7 (some .int) ∈ zT := zT_2 1 (by decide +kernel) rfl
theorem kn_X8_feed : Cond.instanceMethod yX8_feed ∈ zT := zT_1 239 (by decide +kernel) rfl
theorem kv_X8_feed : Cond.selects RX8 yX8_feed yX8_feed ∈ zT := zT_2 0 (by decide +kernel) rfl
theorem kd_X8_feed : zWd yX8_feed 5 := by decide +kernel
theorem kx_X8_end : Cond.code yX8_end cX8_end 2 (some .int) ∈ zT := zT_2 9 (by decide +kernel) rfl
theorem kn_X8_end : Cond.instanceMethod yX8_end ∈ zT := zT_2 7 (by decide +kernel) rfl
theorem kv_X8_end : Cond.selects RX8 yX8_end yX8_end ∈ zT := zT_2 8 (by decide +kernel) rfl
theorem kd_X8_end : zWd yX8_end 1 := by decide +kernel
theorem kx_X8_curve : Cond.code yX8_curve cX8_curve 3 (some .int) ∈ zT := zT_2 13 (by decide +kernel) rfl
theorem kn_X8_curve : Cond.instanceMethod yX8_curve ∈ zT := zT_2 11 (by decide +kernel) rfl
theorem kv_X8_curve : Cond.selects RX8 yX8_curve yX8_curve ∈ zT := zT_2 12 (by decide +kernel) rfl
theorem kd_X8_curve : zWd yX8_curve 0 := by decide +kernel
theorem kx_X8_drop : Cond.code yX8_drop cX8_drop 1 (some .int) ∈ zT := zT_2 211 (by decide +kernel) rfl
theorem kn_X8_drop : Cond.instanceMethod yX8_drop ∈ zT := zT_2 209 (by decide +kernel) rfl
theorem kv_X8_drop : Cond.selects RX8 yX8_drop yX8_drop ∈ zT := zT_2 210 (by decide +kernel) rfl
theorem kd_X8_drop : zWd yX8_drop 0 := by decide +kernel
theorem kx_X8_about : Cond.code yX8_about cX8_about 3 (some .int) ∈ zT := zT_2 215 (by decide +kernel) rfl
theorem kn_X8_about : Cond.instanceMethod yX8_about ∈ zT := zT_2 213 (by decide +kernel) rfl
theorem kv_X8_about : Cond.selects RX8 yX8_about yX8_about ∈ zT := zT_2 214 (by decide +kernel) rfl
theorem kd_X8_about : zWd yX8_about 2 := by decide +kernel
theorem kx_X8_at : Cond.code yX8_at cX8_at 4 (some .int) ∈ zT := zT_2 224 (by decide +kernel) rfl
theorem kn_X8_at : Cond.instanceMethod yX8_at ∈ zT := zT_2 222 (by decide +kernel) rfl
theorem kv_X8_at : Cond.selects RX8 yX8_at yX8_at ∈ zT := zT_2 223 (by decide +kernel) rfl
theorem kd_X8_at : zWd yX8_at 3 := by decide +kernel
theorem kx_X8_slope : Cond.code yX8_slope cX8_slope 4 (some .int) ∈ zT := zT_3 133 (by decide +kernel) rfl
theorem kn_X8_slope : Cond.instanceMethod yX8_slope ∈ zT := zT_3 131 (by decide +kernel) rfl
theorem kv_X8_slope : Cond.selects RX8 yX8_slope yX8_slope ∈ zT := zT_3 132 (by decide +kernel) rfl
theorem kd_X8_slope : zWd yX8_slope 3 := by decide +kernel
theorem kx_X8_area : Cond.code yX8_area cX8_area 9 (some .int) ∈ zT := zT_3 137 (by decide +kernel) rfl
theorem kn_X8_area : Cond.instanceMethod yX8_area ∈ zT := zT_3 135 (by decide +kernel) rfl
theorem kv_X8_area : Cond.selects RX8 yX8_area yX8_area ∈ zT := zT_3 136 (by decide +kernel) rfl
theorem kd_X8_area : zWd yX8_area 5 := by decide +kernel
theorem kx_X8_roots : Cond.code yX8_roots cX8_roots 5 (some .int) ∈ zT := zT_3 180 (by decide +kernel) rfl
theorem kn_X8_roots : Cond.instanceMethod yX8_roots ∈ zT := zT_3 178 (by decide +kernel) rfl
theorem kv_X8_roots : Cond.selects RX8 yX8_roots yX8_roots ∈ zT := zT_3 179 (by decide +kernel) rfl
theorem kd_X8_roots : zWd yX8_roots 4 := by decide +kernel
theorem kx_X8_part : Cond.code yX8_part cX8_part 3 (some .int) ∈ zT := zT_3 208 (by decide +kernel) rfl
theorem kn_X8_part : Cond.instanceMethod yX8_part ∈ zT := zT_3 206 (by decide +kernel) rfl
theorem kv_X8_part : Cond.selects RX8 yX8_part yX8_part ∈ zT := zT_3 207 (by decide +kernel) rfl
theorem kd_X8_part : zWd yX8_part 2 := by decide +kernel
theorem kx_X8_least : Cond.code yX8_least cX8_least 5 (some .int) ∈ zT := zT_3 216 (by decide +kernel) rfl
theorem kn_X8_least : Cond.instanceMethod yX8_least ∈ zT := zT_3 214 (by decide +kernel) rfl
theorem kv_X8_least : Cond.selects RX8 yX8_least yX8_least ∈ zT := zT_3 215 (by decide +kernel) rfl
theorem kd_X8_least : zWd yX8_least 4 := by decide +kernel
theorem kx_X8_greatest : Cond.code yX8_greatest cX8_greatest 5 (some .int) ∈ zT := zT_3 234 (by decide +kernel) rfl
theorem kn_X8_greatest : Cond.instanceMethod yX8_greatest ∈ zT := zT_3 232 (by decide +kernel) rfl
theorem kv_X8_greatest : Cond.selects RX8 yX8_greatest yX8_greatest ∈ zT := zT_3 233 (by decide +kernel) rfl
theorem kd_X8_greatest : zWd yX8_greatest 4 := by decide +kernel
theorem kx_X8_never : Cond.code yX8_never cX8_never 7 (some .int) ∈ zT := zT_3 238 (by decide +kernel) rfl
theorem kn_X8_never : Cond.instanceMethod yX8_never ∈ zT := zT_3 236 (by decide +kernel) rfl
theorem kv_X8_never : Cond.selects RX8 yX8_never yX8_never ∈ zT := zT_3 237 (by decide +kernel) rfl
theorem kd_X8_never : zWd yX8_never 5 := by decide +kernel
theorem kx_X8_low : Cond.code yX8_low cX8_low 1 (some .long) ∈ zT := zT_4 20 (by decide +kernel) rfl
theorem kn_X8_low : Cond.instanceMethod yX8_low ∈ zT := zT_4 18 (by decide +kernel) rfl
theorem kv_X8_low : Cond.selects RX8 yX8_low yX8_low ∈ zT := zT_4 19 (by decide +kernel) rfl
theorem kd_X8_low : zWd yX8_low 0 := by decide +kernel
theorem kx_X8_high : Cond.code yX8_high cX8_high 1 (some .long) ∈ zT := zT_4 24 (by decide +kernel) rfl
theorem kn_X8_high : Cond.instanceMethod yX8_high ∈ zT := zT_4 22 (by decide +kernel) rfl
theorem kv_X8_high : Cond.selects RX8 yX8_high yX8_high ∈ zT := zT_4 23 (by decide +kernel) rfl
theorem kd_X8_high : zWd yX8_high 0 := by decide +kernel
theorem kx_X8_count : Cond.code yX8_count cX8_count 2 (some .int) ∈ zT := zT_4 28 (by decide +kernel) rfl
theorem kn_X8_count : Cond.instanceMethod yX8_count ∈ zT := zT_4 26 (by decide +kernel) rfl
theorem kv_X8_count : Cond.selects RX8 yX8_count yX8_count ∈ zT := zT_4 27 (by decide +kernel) rfl
theorem kd_X8_count : zWd yX8_count 1 := by decide +kernel
theorem kx_X8_isHalvings : Cond.code yX8_isHalvings cX8_isHalvings 1 (some .boolean) ∈ zT := zT_3 141 (by decide +kernel) rfl
theorem ks_X8_isHalvings : Cond.static yX8_isHalvings ∈ zT := zT_3 140 (by decide +kernel) rfl
theorem kd_X8_isHalvings : zWd yX8_isHalvings 1 := by decide +kernel
theorem kx_X8_middleOf : Cond.code yX8_middleOf cX8_middleOf 2 (some .int) ∈ zT := zT_3 156 (by decide +kernel) rfl
theorem ks_X8_middleOf : Cond.static yX8_middleOf ∈ zT := zT_3 155 (by decide +kernel) rfl
theorem kd_X8_middleOf : zWd yX8_middleOf 2 := by decide +kernel
theorem kx_X8_tell : Cond.code yX8_tell cX8_tell 3 (some .int) ∈ zT := zT_3 126 (by decide +kernel) rfl
theorem kn_X8_tell : Cond.instanceMethod yX8_tell ∈ zT := zT_3 125 (by decide +kernel) rfl
theorem kv_X8_tell : Cond.selects RX8 yX8_tell yX8_tell ∈ zT := zT_p 21 (by decide +kernel) rfl
theorem kd_X8_tell : zWd yX8_tell 1 := by decide +kernel
theorem kx_X8_tellHalved : Cond.code yX8_tellHalved cX8_tellHalved 3 (some .int) ∈ zT := zT_3 176 (by decide +kernel) rfl
theorem kn_X8_tellHalved : Cond.instanceMethod yX8_tellHalved ∈ zT := zT_3 175 (by decide +kernel) rfl
theorem kv_X8_tellHalved : Cond.selects RX8 yX8_tellHalved yX8_tellHalved ∈ zT := zT_p 26 (by decide +kernel) rfl
theorem kd_X8_tellHalved : zWd yX8_tellHalved 2 := by decide +kernel
theorem kx_X9_init : Cond.code yX9_init cX9_init 1 none ∈ zT := zT_4 33 (by decide +kernel) rfl
theorem kn_X9_init : Cond.instanceMethod yX9_init ∈ zT := zT_4 32 (by decide +kernel) rfl
theorem kd_X9_init : zWd yX9_init 0 := by decide +kernel
theorem kx_X9_feed : Cond.code yX9_feed cX9_feed 6 (some .int) ∈ zT := zT_4 171 (by decide +kernel) rfl
theorem kn_X9_feed : Cond.instanceMethod yX9_feed ∈ zT := zT_4 169 (by decide +kernel) rfl
theorem kv_X9_feed : Cond.selects RX9 yX9_feed yX9_feed ∈ zT := zT_4 170 (by decide +kernel) rfl
theorem kd_X9_feed : zWd yX9_feed 5 := by decide +kernel
theorem kx_X9_put : Cond.code yX9_put cX9_put 3 none ∈ zT := zT_4 175 (by decide +kernel) rfl
theorem kn_X9_put : Cond.instanceMethod yX9_put ∈ zT := zT_4 174 (by decide +kernel) rfl
theorem kv_X9_put : Cond.selects RX9 yX9_put yX9_put ∈ zT := zT_p 34 (by decide +kernel) rfl
theorem kd_X9_put : zWd yX9_put 1 := by decide +kernel
theorem kx_X9_end : Cond.code yX9_end cX9_end 2 (some .int) ∈ zT := zT_4 179 (by decide +kernel) rfl
theorem kn_X9_end : Cond.instanceMethod yX9_end ∈ zT := zT_4 177 (by decide +kernel) rfl
theorem kv_X9_end : Cond.selects RX9 yX9_end yX9_end ∈ zT := zT_4 178 (by decide +kernel) rfl
theorem kd_X9_end : zWd yX9_end 1 := by decide +kernel
theorem kx_X9_bad : Cond.code yX9_bad cX9_bad 1 (some .boolean) ∈ zT := zT_4 211 (by decide +kernel) rfl
theorem kn_X9_bad : Cond.instanceMethod yX9_bad ∈ zT := zT_4 210 (by decide +kernel) rfl
theorem kv_X9_bad : Cond.selects RX9 yX9_bad yX9_bad ∈ zT := zT_p 41 (by decide +kernel) rfl
theorem kd_X9_bad : zWd yX9_bad 0 := by decide +kernel
theorem kx_X9_fails : Cond.code yX9_fails cX9_fails 3 (some .int) ∈ zT := zT_4 207 (by decide +kernel) rfl
theorem kn_X9_fails : Cond.instanceMethod yX9_fails ∈ zT := zT_4 206 (by decide +kernel) rfl
theorem kv_X9_fails : Cond.selects RX9 yX9_fails yX9_fails ∈ zT := zT_p 40 (by decide +kernel) rfl
theorem kd_X9_fails : zWd yX9_fails 2 := by decide +kernel
theorem kx_X9_peek : Cond.code yX9_peek cX9_peek 1 (some .int) ∈ zT := zT_4 199 (by decide +kernel) rfl
theorem kn_X9_peek : Cond.instanceMethod yX9_peek ∈ zT := zT_4 198 (by decide +kernel) rfl
theorem kv_X9_peek : Cond.selects RX9 yX9_peek yX9_peek ∈ zT := zT_p 38 (by decide +kernel) rfl
theorem kd_X9_peek : zWd yX9_peek 0 := by decide +kernel
theorem kx_X9_isDigit : Cond.code yX9_isDigit cX9_isDigit 2 (some .boolean) ∈ zT := zT_4 223 (by decide +kernel) rfl
theorem kn_X9_isDigit : Cond.instanceMethod yX9_isDigit ∈ zT := zT_4 222 (by decide +kernel) rfl
theorem kv_X9_isDigit : Cond.selects RX9 yX9_isDigit yX9_isDigit ∈ zT := zT_p 44 (by decide +kernel) rfl
theorem kd_X9_isDigit : zWd yX9_isDigit 1 := by decide +kernel
theorem kx_X9_meets : Cond.code yX9_meets cX9_meets 2 none ∈ zT := zT_4 203 (by decide +kernel) rfl
theorem kn_X9_meets : Cond.instanceMethod yX9_meets ∈ zT := zT_4 202 (by decide +kernel) rfl
theorem kv_X9_meets : Cond.selects RX9 yX9_meets yX9_meets ∈ zT := zT_p 39 (by decide +kernel) rfl
theorem kd_X9_meets : zWd yX9_meets 1 := by decide +kernel
theorem kx_X9_make : Cond.code yX9_make cX9_make 5 (some .int) ∈ zT := zT_4 234 (by decide +kernel) rfl
theorem kn_X9_make : Cond.instanceMethod yX9_make ∈ zT := zT_4 233 (by decide +kernel) rfl
theorem kv_X9_make : Cond.selects RX9 yX9_make yX9_make ∈ zT := zT_p 46 (by decide +kernel) rfl
theorem kd_X9_make : zWd yX9_make 3 := by decide +kernel
theorem kx_X9_sum : Cond.code yX9_sum cX9_sum 4 (some .int) ∈ zT := zT_4 187 (by decide +kernel) rfl
theorem kn_X9_sum : Cond.instanceMethod yX9_sum ∈ zT := zT_4 186 (by decide +kernel) rfl
theorem kv_X9_sum : Cond.selects RX9 yX9_sum yX9_sum ∈ zT := zT_p 35 (by decide +kernel) rfl
theorem kd_X9_sum : zWd yX9_sum 0 := by decide +kernel
theorem kx_X9_term : Cond.code yX9_term cX9_term 4 (some .int) ∈ zT := zT_4 191 (by decide +kernel) rfl
theorem kn_X9_term : Cond.instanceMethod yX9_term ∈ zT := zT_4 190 (by decide +kernel) rfl
theorem kv_X9_term : Cond.selects RX9 yX9_term yX9_term ∈ zT := zT_p 36 (by decide +kernel) rfl
theorem kd_X9_term : zWd yX9_term 0 := by decide +kernel
theorem kx_X9_power : Cond.code yX9_power cX9_power 4 (some .int) ∈ zT := zT_4 195 (by decide +kernel) rfl
theorem kn_X9_power : Cond.instanceMethod yX9_power ∈ zT := zT_4 194 (by decide +kernel) rfl
theorem kv_X9_power : Cond.selects RX9 yX9_power yX9_power ∈ zT := zT_p 37 (by decide +kernel) rfl
theorem kd_X9_power : zWd yX9_power 0 := by decide +kernel
theorem kx_X9_wordEnd : Cond.code yX9_wordEnd cX9_wordEnd 2 (some .int) ∈ zT := zT_4 219 (by decide +kernel) rfl
theorem kn_X9_wordEnd : Cond.instanceMethod yX9_wordEnd ∈ zT := zT_4 218 (by decide +kernel) rfl
theorem kv_X9_wordEnd : Cond.selects RX9 yX9_wordEnd yX9_wordEnd ∈ zT := zT_p 43 (by decide +kernel) rfl
theorem kd_X9_wordEnd : zWd yX9_wordEnd 0 := by decide +kernel
theorem kx_X9_stands : Cond.code yX9_stands cX9_stands 5 (some .boolean) ∈ zT := zT_4 228 (by decide +kernel) rfl
theorem kn_X9_stands : Cond.instanceMethod yX9_stands ∈ zT := zT_4 227 (by decide +kernel) rfl
theorem kv_X9_stands : Cond.selects RX9 yX9_stands yX9_stands ∈ zT := zT_p 45 (by decide +kernel) rfl
theorem kd_X9_stands : zWd yX9_stands 2 := by decide +kernel
theorem kx_X9_isNumber : Cond.code yX9_isNumber cX9_isNumber 4 (some .boolean) ∈ zT := zT_4 238 (by decide +kernel) rfl
theorem kn_X9_isNumber : Cond.instanceMethod yX9_isNumber ∈ zT := zT_4 237 (by decide +kernel) rfl
theorem kv_X9_isNumber : Cond.selects RX9 yX9_isNumber yX9_isNumber ∈ zT := zT_p 47 (by decide +kernel) rfl
theorem kd_X9_isNumber : zWd yX9_isNumber 1 := by decide +kernel
theorem kx_X9_nameOf : Cond.code yX9_nameOf cX9_nameOf 2 (some (.object "java/lang/String")) ∈ zT := zT_5 23 (by decide +kernel) rfl
theorem kn_X9_nameOf : Cond.instanceMethod yX9_nameOf ∈ zT := zT_5 22 (by decide +kernel) rfl
theorem kv_X9_nameOf : Cond.selects RX9 yX9_nameOf yX9_nameOf ∈ zT := zT_p 51 (by decide +kernel) rfl
theorem kd_X9_nameOf : zWd yX9_nameOf 1 := by decide +kernel
theorem kx_X9_need : Cond.code yX9_need cX9_need 2 none ∈ zT := zT_5 19 (by decide +kernel) rfl
theorem kn_X9_need : Cond.instanceMethod yX9_need ∈ zT := zT_5 18 (by decide +kernel) rfl
theorem kv_X9_need : Cond.selects RX9 yX9_need yX9_need ∈ zT := zT_p 50 (by decide +kernel) rfl
theorem kd_X9_need : zWd yX9_need 1 := by decide +kernel
theorem kx_X9_opens : Cond.code yX9_opens cX9_opens 1 none ∈ zT := zT_5 15 (by decide +kernel) rfl
theorem kn_X9_opens : Cond.instanceMethod yX9_opens ∈ zT := zT_5 14 (by decide +kernel) rfl
theorem kv_X9_opens : Cond.selects RX9 yX9_opens yX9_opens ∈ zT := zT_p 49 (by decide +kernel) rfl
theorem kd_X9_opens : zWd yX9_opens 0 := by decide +kernel
theorem kx_X9_part : Cond.code yX9_part cX9_part 4 (some .int) ∈ zT := zT_4 215 (by decide +kernel) rfl
theorem kn_X9_part : Cond.instanceMethod yX9_part ∈ zT := zT_4 214 (by decide +kernel) rfl
theorem kv_X9_part : Cond.selects RX9 yX9_part yX9_part ∈ zT := zT_p 42 (by decide +kernel) rfl
theorem kd_X9_part : zWd yX9_part 0 := by decide +kernel
theorem kx_X9_named : Cond.code yX9_named cX9_named 4 (some .int) ∈ zT := zT_5 35 (by decide +kernel) rfl
theorem kn_X9_named : Cond.instanceMethod yX9_named ∈ zT := zT_5 34 (by decide +kernel) rfl
theorem kv_X9_named : Cond.selects RX9 yX9_named yX9_named ∈ zT := zT_p 52 (by decide +kernel) rfl
theorem kd_X9_named : zWd yX9_named 1 := by decide +kernel
theorem kx_X9_number : Cond.code yX9_number cX9_number 6 (some .int) ∈ zT := zT_5 2 (by decide +kernel) rfl
theorem kn_X9_number : Cond.instanceMethod yX9_number ∈ zT := zT_5 1 (by decide +kernel) rfl
theorem kv_X9_number : Cond.selects RX9 yX9_number yX9_number ∈ zT := zT_p 48 (by decide +kernel) rfl
theorem kd_X9_number : zWd yX9_number 0 := by decide +kernel
theorem kx_X9_curve : Cond.code yX9_curve cX9_curve 1 (some .int) ∈ zT := zT_4 183 (by decide +kernel) rfl
theorem kn_X9_curve : Cond.instanceMethod yX9_curve ∈ zT := zT_4 181 (by decide +kernel) rfl
theorem kv_X9_curve : Cond.selects RX9 yX9_curve yX9_curve ∈ zT := zT_4 182 (by decide +kernel) rfl
theorem kd_X9_curve : zWd yX9_curve 0 := by decide +kernel
theorem kx_X9_drop : Cond.code yX9_drop cX9_drop 1 (some .int) ∈ zT := zT_5 39 (by decide +kernel) rfl
theorem kn_X9_drop : Cond.instanceMethod yX9_drop ∈ zT := zT_5 37 (by decide +kernel) rfl
theorem kv_X9_drop : Cond.selects RX9 yX9_drop yX9_drop ∈ zT := zT_5 38 (by decide +kernel) rfl
theorem kd_X9_drop : zWd yX9_drop 0 := by decide +kernel
theorem kx_X9_has : Cond.code yX9_has cX9_has 2 (some .boolean) ∈ zT := zT_5 47 (by decide +kernel) rfl
theorem kn_X9_has : Cond.instanceMethod yX9_has ∈ zT := zT_5 46 (by decide +kernel) rfl
theorem kv_X9_has : Cond.selects RX9 yX9_has yX9_has ∈ zT := zT_p 53 (by decide +kernel) rfl
theorem kd_X9_has : zWd yX9_has 1 := by decide +kernel
theorem kx_X9_about : Cond.code yX9_about cX9_about 4 (some .int) ∈ zT := zT_5 43 (by decide +kernel) rfl
theorem kn_X9_about : Cond.instanceMethod yX9_about ∈ zT := zT_5 41 (by decide +kernel) rfl
theorem kv_X9_about : Cond.selects RX9 yX9_about yX9_about ∈ zT := zT_5 42 (by decide +kernel) rfl
theorem kd_X9_about : zWd yX9_about 2 := by decide +kernel
theorem kx_X9_looks : Cond.code yX9_looks cX9_looks 7 none ∈ zT := zT_5 51 (by decide +kernel) rfl
theorem kn_X9_looks : Cond.instanceMethod yX9_looks ∈ zT := zT_5 50 (by decide +kernel) rfl
theorem kv_X9_looks : Cond.selects RX9 yX9_looks yX9_looks ∈ zT := zT_p 54 (by decide +kernel) rfl
theorem kd_X9_looks : zWd yX9_looks 1 := by decide +kernel
theorem kx_X9_down : Cond.code yX9_down cX9_down 6 (some .long) ∈ zT := zT_5 8 (by decide +kernel) rfl
theorem ks_X9_down : Cond.static yX9_down ∈ zT := zT_5 7 (by decide +kernel) rfl
theorem kd_X9_down : zWd yX9_down 2 := by decide +kernel
theorem kx_X9_up : Cond.code yX9_up cX9_up 6 (some .long) ∈ zT := zT_5 11 (by decide +kernel) rfl
theorem ks_X9_up : Cond.static yX9_up ∈ zT := zT_5 10 (by decide +kernel) rfl
theorem kd_X9_up : zWd yX9_up 2 := by decide +kernel
theorem kx_X9_is : Cond.code yX9_is cX9_is 5 none ∈ zT := zT_5 75 (by decide +kernel) rfl
theorem kn_X9_is : Cond.instanceMethod yX9_is ∈ zT := zT_5 74 (by decide +kernel) rfl
theorem kv_X9_is : Cond.selects RX9 yX9_is yX9_is ∈ zT := zT_p 59 (by decide +kernel) rfl
theorem kd_X9_is : zWd yX9_is 2 := by decide +kernel
theorem kx_X9_isHole : Cond.code yX9_isHole cX9_isHole 1 none ∈ zT := zT_5 81 (by decide +kernel) rfl
theorem kn_X9_isHole : Cond.instanceMethod yX9_isHole ∈ zT := zT_5 80 (by decide +kernel) rfl
theorem kv_X9_isHole : Cond.selects RX9 yX9_isHole yX9_isHole ∈ zT := zT_p 60 (by decide +kernel) rfl
theorem kd_X9_isHole : zWd yX9_isHole 0 := by decide +kernel
theorem kx_X9_less : Cond.code yX9_less cX9_less 4 (some .long) ∈ zT := zT_5 93 (by decide +kernel) rfl
theorem ks_X9_less : Cond.static yX9_less ∈ zT := zT_5 92 (by decide +kernel) rfl
theorem kd_X9_less : zWd yX9_less 2 := by decide +kernel
theorem kx_X9_more : Cond.code yX9_more cX9_more 4 (some .long) ∈ zT := zT_5 96 (by decide +kernel) rfl
theorem ks_X9_more : Cond.static yX9_more ∈ zT := zT_5 95 (by decide +kernel) rfl
theorem kd_X9_more : zWd yX9_more 2 := by decide +kernel
theorem kx_X9_times : Cond.code yX9_times cX9_times 13 none ∈ zT := zT_5 100 (by decide +kernel) rfl
theorem kn_X9_times : Cond.instanceMethod yX9_times ∈ zT := zT_5 99 (by decide +kernel) rfl
theorem kv_X9_times : Cond.selects RX9 yX9_times yX9_times ∈ zT := zT_p 63 (by decide +kernel) rfl
theorem kd_X9_times : zWd yX9_times 4 := by decide +kernel
theorem kx_X9_by : Cond.code yX9_by cX9_by 13 none ∈ zT := zT_5 104 (by decide +kernel) rfl
theorem kn_X9_by : Cond.instanceMethod yX9_by ∈ zT := zT_5 103 (by decide +kernel) rfl
theorem kv_X9_by : Cond.selects RX9 yX9_by yX9_by ∈ zT := zT_p 64 (by decide +kernel) rfl
theorem kd_X9_by : zWd yX9_by 4 := by decide +kernel
theorem kx_X9_size : Cond.code yX9_size cX9_size 8 (some .long) ∈ zT := zT_5 89 (by decide +kernel) rfl
theorem kn_X9_size : Cond.instanceMethod yX9_size ∈ zT := zT_5 88 (by decide +kernel) rfl
theorem kv_X9_size : Cond.selects RX9 yX9_size yX9_size ∈ zT := zT_p 62 (by decide +kernel) rfl
theorem kd_X9_size : zWd yX9_size 3 := by decide +kernel
theorem kx_X9_power_ : Cond.code yX9_power_ cX9_power_ 14 none ∈ zT := zT_5 85 (by decide +kernel) rfl
theorem kn_X9_power_ : Cond.instanceMethod yX9_power_ ∈ zT := zT_5 84 (by decide +kernel) rfl
theorem kv_X9_power_ : Cond.selects RX9 yX9_power_ yX9_power_ ∈ zT := zT_p 61 (by decide +kernel) rfl
theorem kd_X9_power_ : zWd yX9_power_ 3 := by decide +kernel
theorem kx_X9_rootDown : Cond.code yX9_rootDown cX9_rootDown 6 (some .long) ∈ zT := zT_5 111 (by decide +kernel) rfl
theorem ks_X9_rootDown : Cond.static yX9_rootDown ∈ zT := zT_5 110 (by decide +kernel) rfl
theorem kd_X9_rootDown : zWd yX9_rootDown 1 := by decide +kernel
theorem kx_X9_root : Cond.code yX9_root cX9_root 7 none ∈ zT := zT_5 108 (by decide +kernel) rfl
theorem kn_X9_root : Cond.instanceMethod yX9_root ∈ zT := zT_5 107 (by decide +kernel) rfl
theorem kv_X9_root : Cond.selects RX9 yX9_root yX9_root ∈ zT := zT_p 65 (by decide +kernel) rfl
theorem kd_X9_root : zWd yX9_root 2 := by decide +kernel
theorem kx_X9_cut : Cond.code yX9_cut cX9_cut 5 (some .long) ∈ zT := zT_5 126 (by decide +kernel) rfl
theorem ks_X9_cut : Cond.static yX9_cut ∈ zT := zT_5 125 (by decide +kernel) rfl
theorem kd_X9_cut : zWd yX9_cut 3 := by decide +kernel
theorem kx_X9_power__ : Cond.code yX9_power__ cX9_power__ 12 (some .long) ∈ zT := zT_5 120 (by decide +kernel) rfl
theorem ks_X9_power__ : Cond.static yX9_power__ ∈ zT := zT_5 119 (by decide +kernel) rfl
theorem kd_X9_power__ : zWd yX9_power__ 2 := by decide +kernel
theorem kx_X9_exp : Cond.code yX9_exp cX9_exp 5 none ∈ zT := zT_5 116 (by decide +kernel) rfl
theorem kn_X9_exp : Cond.instanceMethod yX9_exp ∈ zT := zT_5 115 (by decide +kernel) rfl
theorem kv_X9_exp : Cond.selects RX9 yX9_exp yX9_exp ∈ zT := zT_p 66 (by decide +kernel) rfl
theorem kd_X9_exp : zWd yX9_exp 2 := by decide +kernel
theorem kx_X9_log : Cond.code yX9_log cX9_log 9 none ∈ zT := zT_5 134 (by decide +kernel) rfl
theorem kn_X9_log : Cond.instanceMethod yX9_log ∈ zT := zT_5 133 (by decide +kernel) rfl
theorem kv_X9_log : Cond.selects RX9 yX9_log yX9_log ∈ zT := zT_p 67 (by decide +kernel) rfl
theorem kd_X9_log : zWd yX9_log 2 := by decide +kernel
theorem kx_X9_halved : Cond.code yX9_halved cX9_halved 10 (some .long) ∈ zT := zT_5 137 (by decide +kernel) rfl
theorem ks_X9_halved : Cond.static yX9_halved ∈ zT := zT_5 136 (by decide +kernel) rfl
theorem kd_X9_halved : zWd yX9_halved 2 := by decide +kernel
theorem kx_X9_wave : Cond.code yX9_wave cX9_wave 29 none ∈ zT := zT_5 143 (by decide +kernel) rfl
theorem kn_X9_wave : Cond.instanceMethod yX9_wave ∈ zT := zT_5 142 (by decide +kernel) rfl
theorem kv_X9_wave : Cond.selects RX9 yX9_wave yX9_wave ∈ zT := zT_p 68 (by decide +kernel) rfl
theorem kd_X9_wave : zWd yX9_wave 3 := by decide +kernel
theorem kx_X9_keepValue : Cond.code yX9_keepValue cX9_keepValue 2 none ∈ zT := zT_5 155 (by decide +kernel) rfl
theorem kn_X9_keepValue : Cond.instanceMethod yX9_keepValue ∈ zT := zT_5 154 (by decide +kernel) rfl
theorem kv_X9_keepValue : Cond.selects RX9 yX9_keepValue yX9_keepValue ∈ zT := zT_p 70 (by decide +kernel) rfl
theorem kd_X9_keepValue : zWd yX9_keepValue 1 := by decide +kernel
theorem kx_X9_lastOf : Cond.code yX9_lastOf cX9_lastOf 2 (some .int) ∈ zT := zT_5 67 (by decide +kernel) rfl
theorem kn_X9_lastOf : Cond.instanceMethod yX9_lastOf ∈ zT := zT_5 66 (by decide +kernel) rfl
theorem kv_X9_lastOf : Cond.selects RX9 yX9_lastOf yX9_lastOf ∈ zT := zT_p 57 (by decide +kernel) rfl
theorem kd_X9_lastOf : zWd yX9_lastOf 1 := by decide +kernel
theorem kx_X9_values : Cond.code yX9_values cX9_values 8 none ∈ zT := zT_5 63 (by decide +kernel) rfl
theorem kn_X9_values : Cond.instanceMethod yX9_values ∈ zT := zT_5 62 (by decide +kernel) rfl
theorem kv_X9_values : Cond.selects RX9 yX9_values yX9_values ∈ zT := zT_p 56 (by decide +kernel) rfl
theorem kd_X9_values : zWd yX9_values 3 := by decide +kernel
theorem kx_X9_value : Cond.code yX9_value cX9_value 17 none ∈ zT := zT_5 71 (by decide +kernel) rfl
theorem kn_X9_value : Cond.instanceMethod yX9_value ∈ zT := zT_5 70 (by decide +kernel) rfl
theorem kv_X9_value : Cond.selects RX9 yX9_value yX9_value ∈ zT := zT_p 58 (by decide +kernel) rfl
theorem kd_X9_value : zWd yX9_value 3 := by decide +kernel
theorem kx_X9_size_ : Cond.code yX9_size_ cX9_size_ 5 none ∈ zT := zT_5 151 (by decide +kernel) rfl
theorem kn_X9_size_ : Cond.instanceMethod yX9_size_ ∈ zT := zT_5 150 (by decide +kernel) rfl
theorem kv_X9_size_ : Cond.selects RX9 yX9_size_ yX9_size_ ∈ zT := zT_p 69 (by decide +kernel) rfl
theorem kd_X9_size_ : zWd yX9_size_ 2 := by decide +kernel
theorem kx_X9_slopes : Cond.code yX9_slopes cX9_slopes 8 none ∈ zT := zT_5 171 (by decide +kernel) rfl
theorem kn_X9_slopes : Cond.instanceMethod yX9_slopes ∈ zT := zT_5 170 (by decide +kernel) rfl
theorem kv_X9_slopes : Cond.selects RX9 yX9_slopes yX9_slopes ∈ zT := zT_p 73 (by decide +kernel) rfl
theorem kd_X9_slopes : zWd yX9_slopes 3 := by decide +kernel
theorem kx_X9_thenTimes : Cond.code yX9_thenTimes cX9_thenTimes 5 none ∈ zT := zT_5 187 (by decide +kernel) rfl
theorem kn_X9_thenTimes : Cond.instanceMethod yX9_thenTimes ∈ zT := zT_5 186 (by decide +kernel) rfl
theorem kv_X9_thenTimes : Cond.selects RX9 yX9_thenTimes yX9_thenTimes ∈ zT := zT_p 77 (by decide +kernel) rfl
theorem kd_X9_thenTimes : zWd yX9_thenTimes 2 := by decide +kernel
theorem kx_X9_slope : Cond.code yX9_slope cX9_slope 13 none ∈ zT := zT_5 175 (by decide +kernel) rfl
theorem kn_X9_slope : Cond.instanceMethod yX9_slope ∈ zT := zT_5 174 (by decide +kernel) rfl
theorem kv_X9_slope : Cond.selects RX9 yX9_slope yX9_slope ∈ zT := zT_p 74 (by decide +kernel) rfl
theorem kd_X9_slope : zWd yX9_slope 1 := by decide +kernel
theorem kx_X9_products : Cond.code yX9_products cX9_products 9 none ∈ zT := zT_5 183 (by decide +kernel) rfl
theorem kn_X9_products : Cond.instanceMethod yX9_products ∈ zT := zT_5 182 (by decide +kernel) rfl
theorem kv_X9_products : Cond.selects RX9 yX9_products yX9_products ∈ zT := zT_p 76 (by decide +kernel) rfl
theorem kd_X9_products : zWd yX9_products 3 := by decide +kernel
theorem kx_X9_sizes : Cond.code yX9_sizes cX9_sizes 9 none ∈ zT := zT_5 192 (by decide +kernel) rfl
theorem kn_X9_sizes : Cond.instanceMethod yX9_sizes ∈ zT := zT_5 191 (by decide +kernel) rfl
theorem kv_X9_sizes : Cond.selects RX9 yX9_sizes yX9_sizes ∈ zT := zT_p 78 (by decide +kernel) rfl
theorem kd_X9_sizes : zWd yX9_sizes 4 := by decide +kernel
theorem kx_X9_chosen : Cond.code yX9_chosen cX9_chosen 8 none ∈ zT := zT_5 179 (by decide +kernel) rfl
theorem kn_X9_chosen : Cond.instanceMethod yX9_chosen ∈ zT := zT_5 178 (by decide +kernel) rfl
theorem kv_X9_chosen : Cond.selects RX9 yX9_chosen yX9_chosen ∈ zT := zT_p 75 (by decide +kernel) rfl
theorem kd_X9_chosen : zWd yX9_chosen 3 := by decide +kernel
theorem kx_X9_shut : Cond.code yX9_shut cX9_shut 7 (some .boolean) ∈ zT := zT_5 59 (by decide +kernel) rfl
theorem kn_X9_shut : Cond.instanceMethod yX9_shut ∈ zT := zT_5 58 (by decide +kernel) rfl
theorem kv_X9_shut : Cond.selects RX9 yX9_shut yX9_shut ∈ zT := zT_p 55 (by decide +kernel) rfl
theorem kd_X9_shut : zWd yX9_shut 3 := by decide +kernel
theorem kx_X9_shutSlope : Cond.code yX9_shutSlope cX9_shutSlope 7 (some .boolean) ∈ zT := zT_5 167 (by decide +kernel) rfl
theorem kn_X9_shutSlope : Cond.instanceMethod yX9_shutSlope ∈ zT := zT_5 166 (by decide +kernel) rfl
theorem kv_X9_shutSlope : Cond.selects RX9 yX9_shutSlope yX9_shutSlope ∈ zT := zT_p 72 (by decide +kernel) rfl
theorem kd_X9_shutSlope : zWd yX9_shutSlope 3 := by decide +kernel
theorem kx_X9_tells : Cond.code yX9_tells cX9_tells 6 (some .int) ∈ zT := zT_5 159 (by decide +kernel) rfl
theorem kn_X9_tells : Cond.instanceMethod yX9_tells ∈ zT := zT_5 158 (by decide +kernel) rfl
theorem kv_X9_tells : Cond.selects RX9 yX9_tells yX9_tells ∈ zT := zT_p 71 (by decide +kernel) rfl
theorem kd_X9_tells : zWd yX9_tells 3 := by decide +kernel
theorem kx_X9_at : Cond.code yX9_at cX9_at 5 (some .int) ∈ zT := zT_5 55 (by decide +kernel) rfl
theorem kn_X9_at : Cond.instanceMethod yX9_at ∈ zT := zT_5 53 (by decide +kernel) rfl
theorem kv_X9_at : Cond.selects RX9 yX9_at yX9_at ∈ zT := zT_5 54 (by decide +kernel) rfl
theorem kd_X9_at : zWd yX9_at 3 := by decide +kernel
theorem kx_X9_slope_ : Cond.code yX9_slope_ cX9_slope_ 5 (some .int) ∈ zT := zT_5 163 (by decide +kernel) rfl
theorem kn_X9_slope_ : Cond.instanceMethod yX9_slope_ ∈ zT := zT_5 161 (by decide +kernel) rfl
theorem kv_X9_slope_ : Cond.selects RX9 yX9_slope_ yX9_slope_ ∈ zT := zT_5 162 (by decide +kernel) rfl
theorem kd_X9_slope_ : zWd yX9_slope_ 3 := by decide +kernel
theorem kx_X9_halve : Cond.code yX9_halve cX9_halve 4 none ∈ zT := zT_5 206 (by decide +kernel) rfl
theorem kn_X9_halve : Cond.instanceMethod yX9_halve ∈ zT := zT_5 205 (by decide +kernel) rfl
theorem kv_X9_halve : Cond.selects RX9 yX9_halve yX9_halve ∈ zT := zT_p 80 (by decide +kernel) rfl
theorem kd_X9_halve : zWd yX9_halve 1 := by decide +kernel
theorem kx_X9_sumOf : Cond.code yX9_sumOf cX9_sumOf 13 (some .boolean) ∈ zT := zT_5 201 (by decide +kernel) rfl
theorem kn_X9_sumOf : Cond.instanceMethod yX9_sumOf ∈ zT := zT_5 200 (by decide +kernel) rfl
theorem kv_X9_sumOf : Cond.selects RX9 yX9_sumOf yX9_sumOf ∈ zT := zT_p 79 (by decide +kernel) rfl
theorem kd_X9_sumOf : zWd yX9_sumOf 2 := by decide +kernel
theorem kx_X9_area : Cond.code yX9_area cX9_area 20 (some .int) ∈ zT := zT_5 196 (by decide +kernel) rfl
theorem kn_X9_area : Cond.instanceMethod yX9_area ∈ zT := zT_5 194 (by decide +kernel) rfl
theorem kv_X9_area : Cond.selects RX9 yX9_area yX9_area ∈ zT := zT_5 195 (by decide +kernel) rfl
theorem kd_X9_area : zWd yX9_area 5 := by decide +kernel
theorem kx_X9_looked : Cond.code yX9_looked cX9_looked 8 (some .int) ∈ zT := zT_5 214 (by decide +kernel) rfl
theorem kn_X9_looked : Cond.instanceMethod yX9_looked ∈ zT := zT_5 213 (by decide +kernel) rfl
theorem kv_X9_looked : Cond.selects RX9 yX9_looked yX9_looked ∈ zT := zT_p 81 (by decide +kernel) rfl
theorem kd_X9_looked : zWd yX9_looked 3 := by decide +kernel
theorem kx_X9_signOf : Cond.code yX9_signOf cX9_signOf 4 (some .int) ∈ zT := zT_5 218 (by decide +kernel) rfl
theorem kn_X9_signOf : Cond.instanceMethod yX9_signOf ∈ zT := zT_5 217 (by decide +kernel) rfl
theorem kv_X9_signOf : Cond.selects RX9 yX9_signOf yX9_signOf ∈ zT := zT_p 82 (by decide +kernel) rfl
theorem kd_X9_signOf : zWd yX9_signOf 2 := by decide +kernel
theorem kx_X9_roots : Cond.code yX9_roots cX9_roots 12 (some .int) ∈ zT := zT_5 210 (by decide +kernel) rfl
theorem kn_X9_roots : Cond.instanceMethod yX9_roots ∈ zT := zT_5 208 (by decide +kernel) rfl
theorem kv_X9_roots : Cond.selects RX9 yX9_roots yX9_roots ∈ zT := zT_5 209 (by decide +kernel) rfl
theorem kd_X9_roots : zWd yX9_roots 4 := by decide +kernel
theorem kx_X9_part_ : Cond.code yX9_part_ cX9_part_ 3 (some .int) ∈ zT := zT_5 222 (by decide +kernel) rfl
theorem kn_X9_part_ : Cond.instanceMethod yX9_part_ ∈ zT := zT_5 220 (by decide +kernel) rfl
theorem kv_X9_part_ : Cond.selects RX9 yX9_part_ yX9_part_ ∈ zT := zT_5 221 (by decide +kernel) rfl
theorem kd_X9_part_ : zWd yX9_part_ 2 := by decide +kernel
theorem kx_X9_shutOf : Cond.code yX9_shutOf cX9_shutOf 7 (some .boolean) ∈ zT := zT_5 238 (by decide +kernel) rfl
theorem kn_X9_shutOf : Cond.instanceMethod yX9_shutOf ∈ zT := zT_5 237 (by decide +kernel) rfl
theorem kv_X9_shutOf : Cond.selects RX9 yX9_shutOf yX9_shutOf ∈ zT := zT_p 85 (by decide +kernel) rfl
theorem kd_X9_shutOf : zWd yX9_shutOf 4 := by decide +kernel
theorem kx_X9_lowOf : Cond.code yX9_lowOf cX9_lowOf 7 (some .boolean) ∈ zT := zT_5 234 (by decide +kernel) rfl
theorem kn_X9_lowOf : Cond.instanceMethod yX9_lowOf ∈ zT := zT_5 233 (by decide +kernel) rfl
theorem kv_X9_lowOf : Cond.selects RX9 yX9_lowOf yX9_lowOf ∈ zT := zT_p 84 (by decide +kernel) rfl
theorem kd_X9_lowOf : zWd yX9_lowOf 3 := by decide +kernel
theorem kx_X9_extreme : Cond.code yX9_extreme cX9_extreme 11 (some .int) ∈ zT := zT_5 230 (by decide +kernel) rfl
theorem kn_X9_extreme : Cond.instanceMethod yX9_extreme ∈ zT := zT_5 229 (by decide +kernel) rfl
theorem kv_X9_extreme : Cond.selects RX9 yX9_extreme yX9_extreme ∈ zT := zT_p 83 (by decide +kernel) rfl
theorem kd_X9_extreme : zWd yX9_extreme 5 := by decide +kernel
theorem kx_X9_least : Cond.code yX9_least cX9_least 3 (some .int) ∈ zT := zT_6 2 (by decide +kernel) rfl
theorem kn_X9_least : Cond.instanceMethod yX9_least ∈ zT := zT_6 1 (by decide +kernel) rfl
theorem kv_X9_least : Cond.selects RX9 yX9_least yX9_least ∈ zT := zT_p 86 (by decide +kernel) rfl
theorem kd_X9_least : zWd yX9_least 0 := by decide +kernel
theorem kx_X9_least_ : Cond.code yX9_least_ cX9_least_ 5 (some .int) ∈ zT := zT_5 226 (by decide +kernel) rfl
theorem kn_X9_least_ : Cond.instanceMethod yX9_least_ ∈ zT := zT_5 224 (by decide +kernel) rfl
theorem kv_X9_least_ : Cond.selects RX9 yX9_least_ yX9_least_ ∈ zT := zT_5 225 (by decide +kernel) rfl
theorem kd_X9_least_ : zWd yX9_least_ 4 := by decide +kernel
theorem kx_X9_greatest : Cond.code yX9_greatest cX9_greatest 5 (some .int) ∈ zT := zT_6 6 (by decide +kernel) rfl
theorem kn_X9_greatest : Cond.instanceMethod yX9_greatest ∈ zT := zT_6 4 (by decide +kernel) rfl
theorem kv_X9_greatest : Cond.selects RX9 yX9_greatest yX9_greatest ∈ zT := zT_6 5 (by decide +kernel) rfl
theorem kd_X9_greatest : zWd yX9_greatest 4 := by decide +kernel
theorem kx_X9_never : Cond.code yX9_never cX9_never 15 (some .int) ∈ zT := zT_6 10 (by decide +kernel) rfl
theorem kn_X9_never : Cond.instanceMethod yX9_never ∈ zT := zT_6 8 (by decide +kernel) rfl
theorem kv_X9_never : Cond.selects RX9 yX9_never yX9_never ∈ zT := zT_6 9 (by decide +kernel) rfl
theorem kd_X9_never : zWd yX9_never 5 := by decide +kernel
theorem kx_X9_isNotAbove : Cond.code yX9_isNotAbove cX9_isNotAbove 5 (some .boolean) ∈ zT := zT_6 14 (by decide +kernel) rfl
theorem kn_X9_isNotAbove : Cond.instanceMethod yX9_isNotAbove ∈ zT := zT_6 13 (by decide +kernel) rfl
theorem kv_X9_isNotAbove : Cond.selects RX9 yX9_isNotAbove yX9_isNotAbove ∈ zT := zT_p 87 (by decide +kernel) rfl
theorem kd_X9_isNotAbove : zWd yX9_isNotAbove 3 := by decide +kernel
theorem kx_X9_low : Cond.code yX9_low cX9_low 1 (some .long) ∈ zT := zT_6 18 (by decide +kernel) rfl
theorem kn_X9_low : Cond.instanceMethod yX9_low ∈ zT := zT_6 16 (by decide +kernel) rfl
theorem kv_X9_low : Cond.selects RX9 yX9_low yX9_low ∈ zT := zT_6 17 (by decide +kernel) rfl
theorem kd_X9_low : zWd yX9_low 0 := by decide +kernel
theorem kx_X9_high : Cond.code yX9_high cX9_high 1 (some .long) ∈ zT := zT_6 22 (by decide +kernel) rfl
theorem kn_X9_high : Cond.instanceMethod yX9_high ∈ zT := zT_6 20 (by decide +kernel) rfl
theorem kv_X9_high : Cond.selects RX9 yX9_high yX9_high ∈ zT := zT_6 21 (by decide +kernel) rfl
theorem kd_X9_high : zWd yX9_high 0 := by decide +kernel
theorem kx_X9_count : Cond.code yX9_count cX9_count 2 (some .int) ∈ zT := zT_6 26 (by decide +kernel) rfl
theorem kn_X9_count : Cond.instanceMethod yX9_count ∈ zT := zT_6 24 (by decide +kernel) rfl
theorem kv_X9_count : Cond.selects RX9 yX9_count yX9_count ∈ zT := zT_6 25 (by decide +kernel) rfl
theorem kd_X9_count : zWd yX9_count 1 := by decide +kernel
theorem kx_J9_floorDiv_f86c9 : Cond.code yJ9_floorDiv_f86c9 cJ9_floorDiv_f86c9 6 (some .long) ∈ zT := zT_3 99 (by decide +kernel) rfl
theorem ks_J9_floorDiv_f86c9 : Cond.static yJ9_floorDiv_f86c9 ∈ zT := zT_3 98 (by decide +kernel) rfl
theorem kd_J9_floorDiv_f86c9 : zWd yJ9_floorDiv_f86c9 2 := by decide +kernel
theorem kx_J9_abs_067f4 : Cond.code yJ9_abs_067f4 cJ9_abs_067f4 2 (some .long) ∈ zT := zT_3 21 (by decide +kernel) rfl
theorem ks_J9_abs_067f4 : Cond.static yJ9_abs_067f4 ∈ zT := zT_3 20 (by decide +kernel) rfl
theorem kd_J9_abs_067f4 : zWd yJ9_abs_067f4 1 := by decide +kernel
theorem kx_J9_max_7cf53 : Cond.code yJ9_max_7cf53 cJ9_max_7cf53 2 (some .int) ∈ zT := zT_2 206 (by decide +kernel) rfl
theorem ks_J9_max_7cf53 : Cond.static yJ9_max_7cf53 ∈ zT := zT_2 205 (by decide +kernel) rfl
theorem kd_J9_max_7cf53 : zWd yJ9_max_7cf53 2 := by decide +kernel
theorem kx_J9_max_f86c9 : Cond.code yJ9_max_f86c9 cJ9_max_f86c9 4 (some .long) ∈ zT := zT_3 27 (by decide +kernel) rfl
theorem ks_J9_max_f86c9 : Cond.static yJ9_max_f86c9 ∈ zT := zT_3 26 (by decide +kernel) rfl
theorem kd_J9_max_f86c9 : zWd yJ9_max_f86c9 2 := by decide +kernel
theorem kx_J9_min_7cf53 : Cond.code yJ9_min_7cf53 cJ9_min_7cf53 2 (some .int) ∈ zT := zT_2 203 (by decide +kernel) rfl
theorem ks_J9_min_7cf53 : Cond.static yJ9_min_7cf53 ∈ zT := zT_2 202 (by decide +kernel) rfl
theorem kd_J9_min_7cf53 : zWd yJ9_min_7cf53 2 := by decide +kernel
theorem kx_J9_min_f86c9 : Cond.code yJ9_min_f86c9 cJ9_min_f86c9 4 (some .long) ∈ zT := zT_3 24 (by decide +kernel) rfl
theorem ks_J9_min_f86c9 : Cond.static yJ9_min_f86c9 ∈ zT := zT_3 23 (by decide +kernel) rfl
theorem kd_J9_min_f86c9 : zWd yJ9_min_f86c9 2 := by decide +kernel
theorem kx_J0_length_8abf5 : Cond.code yJ0_length_8abf5 cJ0_length_8abf5 1 (some .int) ∈ zT := zT_2 76 (by decide +kernel) rfl
theorem kn_J0_length_8abf5 : Cond.instanceMethod yJ0_length_8abf5 ∈ zT := zT_2 74 (by decide +kernel) rfl
theorem kv_J0_length_8abf5 : Cond.selects RJ0 yJ0_length_8abf5 yJ0_length_8abf5 ∈ zT := zT_2 75 (by decide +kernel) rfl
theorem kd_J0_length_8abf5 : zWd yJ0_length_8abf5 0 := by decide +kernel
theorem kx_J0_charAt_5068e : Cond.code yJ0_charAt_5068e cJ0_charAt_5068e 2 (some .char) ∈ zT := zT_2 86 (by decide +kernel) rfl
theorem kn_J0_charAt_5068e : Cond.instanceMethod yJ0_charAt_5068e ∈ zT := zT_2 84 (by decide +kernel) rfl
theorem kv_J0_charAt_5068e : Cond.selects RJ0 yJ0_charAt_5068e yJ0_charAt_5068e ∈ zT := zT_2 85 (by decide +kernel) rfl
theorem kd_J0_charAt_5068e : zWd yJ0_charAt_5068e 1 := by decide +kernel
theorem kx_J0_coder_7d493 : Cond.code yJ0_coder_7d493 cJ0_coder_7d493 1 (some .byte) ∈ zT := zT_2 80 (by decide +kernel) rfl
theorem kn_J0_coder_7d493 : Cond.instanceMethod yJ0_coder_7d493 ∈ zT := zT_2 78 (by decide +kernel) rfl
theorem kv_J0_coder_7d493 : Cond.selects RJ0 yJ0_coder_7d493 yJ0_coder_7d493 ∈ zT := zT_2 79 (by decide +kernel) rfl
theorem kd_J0_coder_7d493 : zWd yJ0_coder_7d493 0 := by decide +kernel
theorem kx_J0_isLatin1_aae02 : Cond.code yJ0_isLatin1_aae02 cJ0_isLatin1_aae02 1 (some .boolean) ∈ zT := zT_2 90 (by decide +kernel) rfl
theorem kn_J0_isLatin1_aae02 : Cond.instanceMethod yJ0_isLatin1_aae02 ∈ zT := zT_2 88 (by decide +kernel) rfl
theorem kv_J0_isLatin1_aae02 : Cond.selects RJ0 yJ0_isLatin1_aae02 yJ0_isLatin1_aae02 ∈ zT := zT_2 89 (by decide +kernel) rfl
theorem kd_J0_isLatin1_aae02 : zWd yJ0_isLatin1_aae02 0 := by decide +kernel
theorem kx_J0_checkIndex_df160 : Cond.code yJ0_checkIndex_df160 cJ0_checkIndex_df160 2 none ∈ zT := zT_2 96 (by decide +kernel) rfl
theorem ks_J0_checkIndex_df160 : Cond.static yJ0_checkIndex_df160 ∈ zT := zT_2 95 (by decide +kernel) rfl
theorem kd_J0_checkIndex_df160 : zWd yJ0_checkIndex_df160 2 := by decide +kernel
theorem kx_J1_charAt_3b067 : Cond.code yJ1_charAt_3b067 cJ1_charAt_3b067 2 (some .char) ∈ zT := zT_2 93 (by decide +kernel) rfl
theorem ks_J1_charAt_3b067 : Cond.static yJ1_charAt_3b067 ∈ zT := zT_2 92 (by decide +kernel) rfl
theorem kd_J1_charAt_3b067 : zWd yJ1_charAt_3b067 2 := by decide +kernel
theorem kx_J2_getChar_3b067 : Cond.code yJ2_getChar_3b067 cJ2_getChar_3b067 2 (some .char) ∈ zT := zT_2 114 (by decide +kernel) rfl
theorem ks_J2_getChar_3b067 : Cond.static yJ2_getChar_3b067 ∈ zT := zT_2 113 (by decide +kernel) rfl
theorem kd_J2_getChar_3b067 : zWd yJ2_getChar_3b067 2 := by decide +kernel
theorem kx_J2_length_9d52b : Cond.code yJ2_length_9d52b cJ2_length_9d52b 1 (some .int) ∈ zT := zT_2 110 (by decide +kernel) rfl
theorem ks_J2_length_9d52b : Cond.static yJ2_length_9d52b ∈ zT := zT_2 109 (by decide +kernel) rfl
theorem kd_J2_length_9d52b : zWd yJ2_length_9d52b 1 := by decide +kernel
theorem kx_J2_charAt_3b067 : Cond.code yJ2_charAt_3b067 cJ2_charAt_3b067 2 (some .char) ∈ zT := zT_2 104 (by decide +kernel) rfl
theorem ks_J2_charAt_3b067 : Cond.static yJ2_charAt_3b067 ∈ zT := zT_2 103 (by decide +kernel) rfl
theorem kd_J2_charAt_3b067 : zWd yJ2_charAt_3b067 2 := by decide +kernel
theorem kx_J2_checkIndex_2214a : Cond.code yJ2_checkIndex_2214a cJ2_checkIndex_2214a 2 none ∈ zT := zT_2 107 (by decide +kernel) rfl
theorem ks_J2_checkIndex_2214a : Cond.static yJ2_checkIndex_2214a ∈ zT := zT_2 106 (by decide +kernel) rfl
theorem kd_J2_checkIndex_2214a : zWd yJ2_checkIndex_2214a 2 := by decide +kernel
theorem kx_J3_checkIndex_8e157 : Cond.code yJ3_checkIndex_8e157 cJ3_checkIndex_8e157 3 (some .int) ∈ zT := zT_2 101 (by decide +kernel) rfl
theorem ks_J3_checkIndex_8e157 : Cond.static yJ3_checkIndex_8e157 ∈ zT := zT_2 100 (by decide +kernel) rfl
theorem kd_J3_checkIndex_8e157 : zWd yJ3_checkIndex_8e157 3 := by decide +kernel
theorem zm_mmaxL_s : Cond.static Lib.MathLoose.max_long.x ∈ zT := zT_3 26 (by decide +kernel) rfl
theorem zm_mmaxL_c : Cond.code Lib.MathLoose.max_long.x Lib.MathLoose.max_long.code 4 (some .long) ∈ zT := zT_3 27 (by decide +kernel) rfl
theorem zm_mminL_s : Cond.static Lib.MathLoose.min_long.x ∈ zT := zT_3 23 (by decide +kernel) rfl
theorem zm_mminL_c : Cond.code Lib.MathLoose.min_long.x Lib.MathLoose.min_long.code 4 (some .long) ∈ zT := zT_3 24 (by decide +kernel) rfl
theorem zm_mabsL_s : Cond.static Lib.MathLoose.abs_long.x ∈ zT := zT_3 20 (by decide +kernel) rfl
theorem zm_mabsL_c : Cond.code Lib.MathLoose.abs_long.x Lib.MathLoose.abs_long.code 2 (some .long) ∈ zT := zT_3 21 (by decide +kernel) rfl
theorem zm_mmaxI_s : Cond.static Lib.Math.max.name ∈ zT := zT_2 205 (by decide +kernel) rfl
theorem zm_mmaxI_c : Cond.code Lib.Math.max.name Lib.Math.max.code 2 (some .int) ∈ zT := zT_2 206 (by decide +kernel) rfl
theorem zm_mminI_s : Cond.static Lib.Math.min.name ∈ zT := zT_2 202 (by decide +kernel) rfl
theorem zm_mminI_c : Cond.code Lib.Math.min.name Lib.Math.min.code 2 (some .int) ∈ zT := zT_2 203 (by decide +kernel) rfl
theorem zm_ini : Cond.initialized "java/lang/Math" ∈ zT := zT_1 14 (by decide +kernel) rfl
theorem inTX0 : ∀ w ∈ u_ws RX0 TX0 7, w ∈ zT := fun w h => zT_of ((goodIn_r (big := lw_tbl) (u_ws RX0 TX0 7) [154, 156, 158, 160, 162, 164, 166] (by decide +kernel) (by decide +kernel)) w h).1 (List.all_eq_true.mp (show (u_ws RX0 TX0 7).all goodWord = true by decide +kernel) w h)
theorem inTX1 : ∀ w ∈ u_ws RX1 TX1 10, w ∈ zT := fun w h => zT_of ((goodIn_r (big := lw_tbl) (u_ws RX1 TX1 10) [215, 217, 219, 221, 223, 225, 227, 229, 231, 233] (by decide +kernel) (by decide +kernel)) w h).1 (List.all_eq_true.mp (show (u_ws RX1 TX1 10).all goodWord = true by decide +kernel) w h)
theorem inTX2 : ∀ w ∈ u_ws RX2 TX2 7, w ∈ zT := fun w h => zT_of ((goodIn_r (big := lw_tbl) (u_ws RX2 TX2 7) [252, 254, 256, 258, 260, 262, 264] (by decide +kernel) (by decide +kernel)) w h).1 (List.all_eq_true.mp (show (u_ws RX2 TX2 7).all goodWord = true by decide +kernel) w h)
theorem inTX3 : ∀ w ∈ u_ws RX3 TX3 6, w ∈ zT := fun w h => zT_of ((goodIn_r (big := lw_tbl) (u_ws RX3 TX3 6) [178, 180, 182, 184, 186, 188] (by decide +kernel) (by decide +kernel)) w h).1 (List.all_eq_true.mp (show (u_ws RX3 TX3 6).all goodWord = true by decide +kernel) w h)
theorem inTX6 : ∀ w ∈ u_ws RX6 TX6 2, w ∈ zT := fun w h => zT_of ((goodIn_r (big := lw_tbl) (u_ws RX6 TX6 2) [128, 130] (by decide +kernel) (by decide +kernel)) w h).1 (List.all_eq_true.mp (show (u_ws RX6 TX6 2).all goodWord = true by decide +kernel) w h)
theorem inTX7 : ∀ w ∈ u_ws RX7 TX7 8, w ∈ zT := fun w h => zT_of ((goodIn_r (big := lw_tbl) (u_ws RX7 TX7 8) [284, 286, 288, 290, 292, 294, 296, 298] (by decide +kernel) (by decide +kernel)) w h).1 (List.all_eq_true.mp (show (u_ws RX7 TX7 8).all goodWord = true by decide +kernel) w h)
theorem inTX8 : ∀ w ∈ u_ws RX8 TX8 8, w ∈ zT := fun w h => zT_of ((goodIn_r (big := lw_tbl) (u_ws RX8 TX8 8) [309, 311, 313, 315, 317, 319, 321, 323] (by decide +kernel) (by decide +kernel)) w h).1 (List.all_eq_true.mp (show (u_ws RX8 TX8 8).all goodWord = true by decide +kernel) w h)
theorem inTX9 : ∀ w ∈ u_ws RX9 TX9 44, w ∈ zT := fun w h => zT_of ((goodIn_r (big := lw_tbl) (u_ws RX9 TX9 44) [886, 888, 890, 892, 894, 896, 898, 900, 902, 904, 906, 908, 910, 912, 914, 916, 918, 920, 922, 924, 926, 928, 930, 932, 934, 936, 938, 940, 942, 944, 946, 948, 950, 952, 954, 956, 958, 960, 962, 964, 966, 968, 970, 972] (by decide +kernel) (by decide +kernel)) w h).1 (List.all_eq_true.mp (show (u_ws RX9 TX9 44).all goodWord = true by decide +kernel) w h)
end
section
theorem dJ9_floorDiv_f86c9_0 : decode cJ9_floorDiv_f86c9 0 = .ok (.lload_n 0, 1) := by decide +kernel
theorem dJ9_floorDiv_f86c9_1 : decode cJ9_floorDiv_f86c9 1 = .ok (.lload_n 2, 1) := by decide +kernel
theorem dJ9_floorDiv_f86c9_2 : decode cJ9_floorDiv_f86c9 2 = .ok (.ldiv, 1) := by decide +kernel
theorem dJ9_floorDiv_f86c9_3 : decode cJ9_floorDiv_f86c9 3 = .ok (.lstore 4, 2) := by decide +kernel
theorem dJ9_floorDiv_f86c9_5 : decode cJ9_floorDiv_f86c9 5 = .ok (.lload_n 0, 1) := by decide +kernel
theorem dJ9_floorDiv_f86c9_6 : decode cJ9_floorDiv_f86c9 6 = .ok (.lload_n 2, 1) := by decide +kernel
theorem dJ9_floorDiv_f86c9_7 : decode cJ9_floorDiv_f86c9 7 = .ok (.lxor, 1) := by decide +kernel
theorem dJ9_floorDiv_f86c9_8 : decode cJ9_floorDiv_f86c9 8 = .ok (.lconst 0, 1) := by decide +kernel
theorem dJ9_floorDiv_f86c9_9 : decode cJ9_floorDiv_f86c9 9 = .ok (.lcmp, 1) := by decide +kernel
theorem dJ9_floorDiv_f86c9_10 : decode cJ9_floorDiv_f86c9 10 = .ok (.ifCond .ge 17, 3) := by decide +kernel
theorem dJ9_floorDiv_f86c9_13 : decode cJ9_floorDiv_f86c9 13 = .ok (.lload 4, 2) := by decide +kernel
theorem dJ9_floorDiv_f86c9_15 : decode cJ9_floorDiv_f86c9 15 = .ok (.lload_n 2, 1) := by decide +kernel
theorem dJ9_floorDiv_f86c9_16 : decode cJ9_floorDiv_f86c9 16 = .ok (.lmul, 1) := by decide +kernel
theorem dJ9_floorDiv_f86c9_17 : decode cJ9_floorDiv_f86c9 17 = .ok (.lload_n 0, 1) := by decide +kernel
theorem dJ9_floorDiv_f86c9_18 : decode cJ9_floorDiv_f86c9 18 = .ok (.lcmp, 1) := by decide +kernel
theorem dJ9_floorDiv_f86c9_19 : decode cJ9_floorDiv_f86c9 19 = .ok (.ifCond .eq 8, 3) := by decide +kernel
theorem dJ9_floorDiv_f86c9_22 : decode cJ9_floorDiv_f86c9 22 = .ok (.lload 4, 2) := by decide +kernel
theorem dJ9_floorDiv_f86c9_24 : decode cJ9_floorDiv_f86c9 24 = .ok (.lconst 1, 1) := by decide +kernel
theorem dJ9_floorDiv_f86c9_25 : decode cJ9_floorDiv_f86c9 25 = .ok (.lsub, 1) := by decide +kernel
theorem dJ9_floorDiv_f86c9_26 : decode cJ9_floorDiv_f86c9 26 = .ok (.lreturn, 1) := by decide +kernel
theorem dJ9_floorDiv_f86c9_27 : decode cJ9_floorDiv_f86c9 27 = .ok (.lload 4, 2) := by decide +kernel
theorem dJ9_floorDiv_f86c9_29 : decode cJ9_floorDiv_f86c9 29 = .ok (.lreturn, 1) := by decide +kernel
theorem dJ9_abs_067f4_0 : decode cJ9_abs_067f4 0 = .ok (.lload_n 0, 1) := by decide +kernel
theorem dJ9_abs_067f4_1 : decode cJ9_abs_067f4 1 = .ok (.lconst 0, 1) := by decide +kernel
theorem dJ9_abs_067f4_2 : decode cJ9_abs_067f4 2 = .ok (.lcmp, 1) := by decide +kernel
theorem dJ9_abs_067f4_3 : decode cJ9_abs_067f4 3 = .ok (.ifCond .ge 8, 3) := by decide +kernel
theorem dJ9_abs_067f4_6 : decode cJ9_abs_067f4 6 = .ok (.lload_n 0, 1) := by decide +kernel
theorem dJ9_abs_067f4_7 : decode cJ9_abs_067f4 7 = .ok (.lneg, 1) := by decide +kernel
theorem dJ9_abs_067f4_8 : decode cJ9_abs_067f4 8 = .ok (.goto 4, 3) := by decide +kernel
theorem dJ9_abs_067f4_11 : decode cJ9_abs_067f4 11 = .ok (.lload_n 0, 1) := by decide +kernel
theorem dJ9_abs_067f4_12 : decode cJ9_abs_067f4 12 = .ok (.lreturn, 1) := by decide +kernel
theorem dJ9_max_7cf53_0 : decode cJ9_max_7cf53 0 = .ok (.iload_n 0, 1) := by decide +kernel
theorem dJ9_max_7cf53_1 : decode cJ9_max_7cf53 1 = .ok (.iload_n 1, 1) := by decide +kernel
theorem dJ9_max_7cf53_2 : decode cJ9_max_7cf53 2 = .ok (.if_icmp .lt 7, 3) := by decide +kernel
theorem dJ9_max_7cf53_5 : decode cJ9_max_7cf53 5 = .ok (.iload_n 0, 1) := by decide +kernel
theorem dJ9_max_7cf53_6 : decode cJ9_max_7cf53 6 = .ok (.goto 4, 3) := by decide +kernel
theorem dJ9_max_7cf53_9 : decode cJ9_max_7cf53 9 = .ok (.iload_n 1, 1) := by decide +kernel
theorem dJ9_max_7cf53_10 : decode cJ9_max_7cf53 10 = .ok (.ireturn, 1) := by decide +kernel
theorem dJ9_max_f86c9_0 : decode cJ9_max_f86c9 0 = .ok (.lload_n 0, 1) := by decide +kernel
theorem dJ9_max_f86c9_1 : decode cJ9_max_f86c9 1 = .ok (.lload_n 2, 1) := by decide +kernel
theorem dJ9_max_f86c9_2 : decode cJ9_max_f86c9 2 = .ok (.lcmp, 1) := by decide +kernel
theorem dJ9_max_f86c9_3 : decode cJ9_max_f86c9 3 = .ok (.ifCond .lt 7, 3) := by decide +kernel
theorem dJ9_max_f86c9_6 : decode cJ9_max_f86c9 6 = .ok (.lload_n 0, 1) := by decide +kernel
theorem dJ9_max_f86c9_7 : decode cJ9_max_f86c9 7 = .ok (.goto 4, 3) := by decide +kernel
theorem dJ9_max_f86c9_10 : decode cJ9_max_f86c9 10 = .ok (.lload_n 2, 1) := by decide +kernel
theorem dJ9_max_f86c9_11 : decode cJ9_max_f86c9 11 = .ok (.lreturn, 1) := by decide +kernel
theorem dJ9_min_7cf53_0 : decode cJ9_min_7cf53 0 = .ok (.iload_n 0, 1) := by decide +kernel
theorem dJ9_min_7cf53_1 : decode cJ9_min_7cf53 1 = .ok (.iload_n 1, 1) := by decide +kernel
theorem dJ9_min_7cf53_2 : decode cJ9_min_7cf53 2 = .ok (.if_icmp .gt 7, 3) := by decide +kernel
theorem dJ9_min_7cf53_5 : decode cJ9_min_7cf53 5 = .ok (.iload_n 0, 1) := by decide +kernel
theorem dJ9_min_7cf53_6 : decode cJ9_min_7cf53 6 = .ok (.goto 4, 3) := by decide +kernel
theorem dJ9_min_7cf53_9 : decode cJ9_min_7cf53 9 = .ok (.iload_n 1, 1) := by decide +kernel
theorem dJ9_min_7cf53_10 : decode cJ9_min_7cf53 10 = .ok (.ireturn, 1) := by decide +kernel
theorem dJ9_min_f86c9_0 : decode cJ9_min_f86c9 0 = .ok (.lload_n 0, 1) := by decide +kernel
theorem dJ9_min_f86c9_1 : decode cJ9_min_f86c9 1 = .ok (.lload_n 2, 1) := by decide +kernel
theorem dJ9_min_f86c9_2 : decode cJ9_min_f86c9 2 = .ok (.lcmp, 1) := by decide +kernel
theorem dJ9_min_f86c9_3 : decode cJ9_min_f86c9 3 = .ok (.ifCond .gt 7, 3) := by decide +kernel
theorem dJ9_min_f86c9_6 : decode cJ9_min_f86c9 6 = .ok (.lload_n 0, 1) := by decide +kernel
theorem dJ9_min_f86c9_7 : decode cJ9_min_f86c9 7 = .ok (.goto 4, 3) := by decide +kernel
theorem dJ9_min_f86c9_10 : decode cJ9_min_f86c9 10 = .ok (.lload_n 2, 1) := by decide +kernel
theorem dJ9_min_f86c9_11 : decode cJ9_min_f86c9 11 = .ok (.lreturn, 1) := by decide +kernel
theorem dJ0_length_8abf5_0 : decode cJ0_length_8abf5 0 = .ok (.aload_n 0, 1) := by decide +kernel
theorem dJ0_length_8abf5_1 : decode cJ0_length_8abf5 1 = .ok (.getfield 9, 3) := by decide +kernel
theorem dJ0_length_8abf5_4 : decode cJ0_length_8abf5 4 = .ok (.arraylength, 1) := by decide +kernel
theorem dJ0_length_8abf5_5 : decode cJ0_length_8abf5 5 = .ok (.aload_n 0, 1) := by decide +kernel
theorem dJ0_length_8abf5_6 : decode cJ0_length_8abf5 6 = .ok (.invokevirtual 335, 3) := by decide +kernel
theorem dJ0_length_8abf5_9 : decode cJ0_length_8abf5 9 = .ok (.ishr, 1) := by decide +kernel
theorem dJ0_length_8abf5_10 : decode cJ0_length_8abf5 10 = .ok (.ireturn, 1) := by decide +kernel
theorem dJ0_charAt_5068e_0 : decode cJ0_charAt_5068e 0 = .ok (.aload_n 0, 1) := by decide +kernel
theorem dJ0_charAt_5068e_1 : decode cJ0_charAt_5068e 1 = .ok (.invokevirtual 492, 3) := by decide +kernel
theorem dJ0_charAt_5068e_4 : decode cJ0_charAt_5068e 4 = .ok (.ifCond .eq 12, 3) := by decide +kernel
theorem dJ0_charAt_5068e_7 : decode cJ0_charAt_5068e 7 = .ok (.aload_n 0, 1) := by decide +kernel
theorem dJ0_charAt_5068e_8 : decode cJ0_charAt_5068e 8 = .ok (.getfield 9, 3) := by decide +kernel
theorem dJ0_charAt_5068e_11 : decode cJ0_charAt_5068e 11 = .ok (.iload_n 1, 1) := by decide +kernel
theorem dJ0_charAt_5068e_12 : decode cJ0_charAt_5068e 12 = .ok (.invokestatic 495, 3) := by decide +kernel
theorem dJ0_charAt_5068e_15 : decode cJ0_charAt_5068e 15 = .ok (.ireturn, 1) := by decide +kernel
theorem dJ0_charAt_5068e_16 : decode cJ0_charAt_5068e 16 = .ok (.aload_n 0, 1) := by decide +kernel
theorem dJ0_charAt_5068e_17 : decode cJ0_charAt_5068e 17 = .ok (.getfield 9, 3) := by decide +kernel
theorem dJ0_charAt_5068e_20 : decode cJ0_charAt_5068e 20 = .ok (.iload_n 1, 1) := by decide +kernel
theorem dJ0_charAt_5068e_21 : decode cJ0_charAt_5068e 21 = .ok (.invokestatic 498, 3) := by decide +kernel
theorem dJ0_charAt_5068e_24 : decode cJ0_charAt_5068e 24 = .ok (.ireturn, 1) := by decide +kernel
theorem dJ0_coder_7d493_0 : decode cJ0_coder_7d493 0 = .ok (.getstatic 38, 3) := by decide +kernel
theorem dJ0_coder_7d493_3 : decode cJ0_coder_7d493 3 = .ok (.ifCond .eq 10, 3) := by decide +kernel
theorem dJ0_coder_7d493_6 : decode cJ0_coder_7d493 6 = .ok (.aload_n 0, 1) := by decide +kernel
theorem dJ0_coder_7d493_7 : decode cJ0_coder_7d493 7 = .ok (.getfield 15, 3) := by decide +kernel
theorem dJ0_coder_7d493_10 : decode cJ0_coder_7d493 10 = .ok (.goto 4, 3) := by decide +kernel
theorem dJ0_coder_7d493_13 : decode cJ0_coder_7d493 13 = .ok (.iconst 1, 1) := by decide +kernel
theorem dJ0_coder_7d493_14 : decode cJ0_coder_7d493 14 = .ok (.ireturn, 1) := by decide +kernel
theorem dJ0_isLatin1_aae02_0 : decode cJ0_isLatin1_aae02 0 = .ok (.getstatic 38, 3) := by decide +kernel
theorem dJ0_isLatin1_aae02_3 : decode cJ0_isLatin1_aae02 3 = .ok (.ifCond .eq 14, 3) := by decide +kernel
theorem dJ0_isLatin1_aae02_6 : decode cJ0_isLatin1_aae02 6 = .ok (.aload_n 0, 1) := by decide +kernel
theorem dJ0_isLatin1_aae02_7 : decode cJ0_isLatin1_aae02 7 = .ok (.getfield 15, 3) := by decide +kernel
theorem dJ0_isLatin1_aae02_10 : decode cJ0_isLatin1_aae02 10 = .ok (.ifCond .ne 7, 3) := by decide +kernel
theorem dJ0_isLatin1_aae02_13 : decode cJ0_isLatin1_aae02 13 = .ok (.iconst 1, 1) := by decide +kernel
theorem dJ0_isLatin1_aae02_14 : decode cJ0_isLatin1_aae02 14 = .ok (.goto 4, 3) := by decide +kernel
theorem dJ0_isLatin1_aae02_17 : decode cJ0_isLatin1_aae02 17 = .ok (.iconst 0, 1) := by decide +kernel
theorem dJ0_isLatin1_aae02_18 : decode cJ0_isLatin1_aae02 18 = .ok (.ireturn, 1) := by decide +kernel
theorem dJ0_checkIndex_df160_0 : decode cJ0_checkIndex_df160 0 = .ok (.iload_n 0, 1) := by decide +kernel
theorem dJ0_checkIndex_df160_1 : decode cJ0_checkIndex_df160 1 = .ok (.iload_n 1, 1) := by decide +kernel
theorem dJ0_checkIndex_df160_2 : decode cJ0_checkIndex_df160 2 = .ok (.getstatic 1053, 3) := by decide +kernel
theorem dJ0_checkIndex_df160_5 : decode cJ0_checkIndex_df160 5 = .ok (.invokestatic 1059, 3) := by decide +kernel
theorem dJ0_checkIndex_df160_8 : decode cJ0_checkIndex_df160 8 = .ok (.pop, 1) := by decide +kernel
theorem dJ0_checkIndex_df160_9 : decode cJ0_checkIndex_df160 9 = .ok (.return_, 1) := by decide +kernel
theorem dJ1_charAt_3b067_0 : decode cJ1_charAt_3b067 0 = .ok (.iload_n 1, 1) := by decide +kernel
theorem dJ1_charAt_3b067_1 : decode cJ1_charAt_3b067 1 = .ok (.aload_n 0, 1) := by decide +kernel
theorem dJ1_charAt_3b067_2 : decode cJ1_charAt_3b067 2 = .ok (.arraylength, 1) := by decide +kernel
theorem dJ1_charAt_3b067_3 : decode cJ1_charAt_3b067 3 = .ok (.invokestatic 9, 3) := by decide +kernel
theorem dJ1_charAt_3b067_6 : decode cJ1_charAt_3b067 6 = .ok (.aload_n 0, 1) := by decide +kernel
theorem dJ1_charAt_3b067_7 : decode cJ1_charAt_3b067 7 = .ok (.iload_n 1, 1) := by decide +kernel
theorem dJ1_charAt_3b067_8 : decode cJ1_charAt_3b067 8 = .ok (.baload, 1) := by decide +kernel
theorem dJ1_charAt_3b067_9 : decode cJ1_charAt_3b067 9 = .ok (.sipush 255, 3) := by decide +kernel
theorem dJ1_charAt_3b067_12 : decode cJ1_charAt_3b067 12 = .ok (.iand, 1) := by decide +kernel
theorem dJ1_charAt_3b067_13 : decode cJ1_charAt_3b067 13 = .ok (.i2c, 1) := by decide +kernel
theorem dJ1_charAt_3b067_14 : decode cJ1_charAt_3b067 14 = .ok (.ireturn, 1) := by decide +kernel
theorem dJ2_getChar_3b067_0 : decode cJ2_getChar_3b067 0 = .ok (.getstatic 44, 3) := by decide +kernel
theorem dJ2_getChar_3b067_3 : decode cJ2_getChar_3b067 3 = .ok (.ifCond .ne 25, 3) := by decide +kernel
theorem dJ2_getChar_3b067_6 : decode cJ2_getChar_3b067 6 = .ok (.iload_n 1, 1) := by decide +kernel
theorem dJ2_getChar_3b067_7 : decode cJ2_getChar_3b067 7 = .ok (.ifCond .lt 11, 3) := by decide +kernel
theorem dJ2_getChar_3b067_10 : decode cJ2_getChar_3b067 10 = .ok (.iload_n 1, 1) := by decide +kernel
theorem dJ2_getChar_3b067_11 : decode cJ2_getChar_3b067 11 = .ok (.aload_n 0, 1) := by decide +kernel
theorem dJ2_getChar_3b067_12 : decode cJ2_getChar_3b067 12 = .ok (.invokestatic 48, 3) := by decide +kernel
theorem dJ2_getChar_3b067_15 : decode cJ2_getChar_3b067 15 = .ok (.if_icmp .lt 13, 3) := by decide +kernel
theorem dJ2_getChar_3b067_18 : decode cJ2_getChar_3b067 18 = .ok (.new 52, 3) := by decide +kernel
theorem dJ2_getChar_3b067_21 : decode cJ2_getChar_3b067 21 = .ok (.dup, 1) := by decide +kernel
theorem dJ2_getChar_3b067_22 : decode cJ2_getChar_3b067 22 = .ok (.ldc 54, 2) := by decide +kernel
theorem dJ2_getChar_3b067_24 : decode cJ2_getChar_3b067 24 = .ok (.invokespecial 56, 3) := by decide +kernel
theorem dJ2_getChar_3b067_27 : decode cJ2_getChar_3b067 27 = .ok (.athrow, 1) := by decide +kernel
theorem dJ2_getChar_3b067_28 : decode cJ2_getChar_3b067 28 = .ok (.iload_n 1, 1) := by decide +kernel
theorem dJ2_getChar_3b067_29 : decode cJ2_getChar_3b067 29 = .ok (.iconst 1, 1) := by decide +kernel
theorem dJ2_getChar_3b067_30 : decode cJ2_getChar_3b067 30 = .ok (.ishl, 1) := by decide +kernel
theorem dJ2_getChar_3b067_31 : decode cJ2_getChar_3b067 31 = .ok (.istore_n 1, 1) := by decide +kernel
theorem dJ2_getChar_3b067_32 : decode cJ2_getChar_3b067 32 = .ok (.aload_n 0, 1) := by decide +kernel
theorem dJ2_getChar_3b067_33 : decode cJ2_getChar_3b067 33 = .ok (.iload_n 1, 1) := by decide +kernel
theorem dJ2_getChar_3b067_34 : decode cJ2_getChar_3b067 34 = .ok (.iinc 1 1, 3) := by decide +kernel
theorem dJ2_getChar_3b067_37 : decode cJ2_getChar_3b067 37 = .ok (.baload, 1) := by decide +kernel
theorem dJ2_getChar_3b067_38 : decode cJ2_getChar_3b067 38 = .ok (.sipush 255, 3) := by decide +kernel
theorem dJ2_getChar_3b067_41 : decode cJ2_getChar_3b067 41 = .ok (.iand, 1) := by decide +kernel
theorem dJ2_getChar_3b067_42 : decode cJ2_getChar_3b067 42 = .ok (.getstatic 59, 3) := by decide +kernel
theorem dJ2_getChar_3b067_45 : decode cJ2_getChar_3b067 45 = .ok (.ishl, 1) := by decide +kernel
theorem dJ2_getChar_3b067_46 : decode cJ2_getChar_3b067 46 = .ok (.aload_n 0, 1) := by decide +kernel
theorem dJ2_getChar_3b067_47 : decode cJ2_getChar_3b067 47 = .ok (.iload_n 1, 1) := by decide +kernel
theorem dJ2_getChar_3b067_48 : decode cJ2_getChar_3b067 48 = .ok (.baload, 1) := by decide +kernel
theorem dJ2_getChar_3b067_49 : decode cJ2_getChar_3b067 49 = .ok (.sipush 255, 3) := by decide +kernel
theorem dJ2_getChar_3b067_52 : decode cJ2_getChar_3b067 52 = .ok (.iand, 1) := by decide +kernel
theorem dJ2_getChar_3b067_53 : decode cJ2_getChar_3b067 53 = .ok (.getstatic 63, 3) := by decide +kernel
theorem dJ2_getChar_3b067_56 : decode cJ2_getChar_3b067 56 = .ok (.ishl, 1) := by decide +kernel
theorem dJ2_getChar_3b067_57 : decode cJ2_getChar_3b067 57 = .ok (.ior, 1) := by decide +kernel
theorem dJ2_getChar_3b067_58 : decode cJ2_getChar_3b067 58 = .ok (.i2c, 1) := by decide +kernel
theorem dJ2_getChar_3b067_59 : decode cJ2_getChar_3b067 59 = .ok (.ireturn, 1) := by decide +kernel
theorem dJ2_length_9d52b_0 : decode cJ2_length_9d52b 0 = .ok (.aload_n 0, 1) := by decide +kernel
theorem dJ2_length_9d52b_1 : decode cJ2_length_9d52b 1 = .ok (.arraylength, 1) := by decide +kernel
theorem dJ2_length_9d52b_2 : decode cJ2_length_9d52b 2 = .ok (.iconst 1, 1) := by decide +kernel
theorem dJ2_length_9d52b_3 : decode cJ2_length_9d52b 3 = .ok (.ishr, 1) := by decide +kernel
theorem dJ2_length_9d52b_4 : decode cJ2_length_9d52b 4 = .ok (.ireturn, 1) := by decide +kernel
theorem dJ2_charAt_3b067_0 : decode cJ2_charAt_3b067 0 = .ok (.iload_n 1, 1) := by decide +kernel
theorem dJ2_charAt_3b067_1 : decode cJ2_charAt_3b067 1 = .ok (.aload_n 0, 1) := by decide +kernel
theorem dJ2_charAt_3b067_2 : decode cJ2_charAt_3b067 2 = .ok (.invokestatic 67, 3) := by decide +kernel
theorem dJ2_charAt_3b067_5 : decode cJ2_charAt_3b067 5 = .ok (.aload_n 0, 1) := by decide +kernel
theorem dJ2_charAt_3b067_6 : decode cJ2_charAt_3b067 6 = .ok (.iload_n 1, 1) := by decide +kernel
theorem dJ2_charAt_3b067_7 : decode cJ2_charAt_3b067 7 = .ok (.invokestatic 71, 3) := by decide +kernel
theorem dJ2_charAt_3b067_10 : decode cJ2_charAt_3b067 10 = .ok (.ireturn, 1) := by decide +kernel
theorem dJ2_checkIndex_2214a_0 : decode cJ2_checkIndex_2214a 0 = .ok (.iload_n 0, 1) := by decide +kernel
theorem dJ2_checkIndex_2214a_1 : decode cJ2_checkIndex_2214a 1 = .ok (.aload_n 1, 1) := by decide +kernel
theorem dJ2_checkIndex_2214a_2 : decode cJ2_checkIndex_2214a 2 = .ok (.invokestatic 48, 3) := by decide +kernel
theorem dJ2_checkIndex_2214a_5 : decode cJ2_checkIndex_2214a 5 = .ok (.invokestatic 414, 3) := by decide +kernel
theorem dJ2_checkIndex_2214a_8 : decode cJ2_checkIndex_2214a 8 = .ok (.return_, 1) := by decide +kernel
theorem dJ3_checkIndex_8e157_0 : decode cJ3_checkIndex_8e157 0 = .ok (.iload_n 0, 1) := by decide +kernel
theorem dJ3_checkIndex_8e157_1 : decode cJ3_checkIndex_8e157 1 = .ok (.ifCond .lt 8, 3) := by decide +kernel
theorem dJ3_checkIndex_8e157_4 : decode cJ3_checkIndex_8e157 4 = .ok (.iload_n 0, 1) := by decide +kernel
theorem dJ3_checkIndex_8e157_5 : decode cJ3_checkIndex_8e157 5 = .ok (.iload_n 1, 1) := by decide +kernel
theorem dJ3_checkIndex_8e157_6 : decode cJ3_checkIndex_8e157 6 = .ok (.if_icmp .lt 10, 3) := by decide +kernel
theorem dJ3_checkIndex_8e157_9 : decode cJ3_checkIndex_8e157 9 = .ok (.aload_n 2, 1) := by decide +kernel
theorem dJ3_checkIndex_8e157_10 : decode cJ3_checkIndex_8e157 10 = .ok (.iload_n 0, 1) := by decide +kernel
theorem dJ3_checkIndex_8e157_11 : decode cJ3_checkIndex_8e157 11 = .ok (.iload_n 1, 1) := by decide +kernel
theorem dJ3_checkIndex_8e157_12 : decode cJ3_checkIndex_8e157 12 = .ok (.invokestatic 95, 3) := by decide +kernel
theorem dJ3_checkIndex_8e157_15 : decode cJ3_checkIndex_8e157 15 = .ok (.athrow, 1) := by decide +kernel
theorem dJ3_checkIndex_8e157_16 : decode cJ3_checkIndex_8e157 16 = .ok (.iload_n 0, 1) := by decide +kernel
theorem dJ3_checkIndex_8e157_17 : decode cJ3_checkIndex_8e157 17 = .ok (.ireturn, 1) := by decide +kernel
end
section
theorem dX5_of_0 : decode cX5_of 0 = .ok (.lload_n 0, 1) := by decide +kernel
theorem dX5_of_1 : decode cX5_of 1 = .ok (.ldc2_w 9, 3) := by decide +kernel
theorem dX5_of_4 : decode cX5_of 4 = .ok (.lcmp, 1) := by decide +kernel
theorem dX5_of_5 : decode cX5_of 5 = .ok (.ifCond .lt 17, 3) := by decide +kernel
theorem dX5_of_8 : decode cX5_of 8 = .ok (.lload_n 2, 1) := by decide +kernel
theorem dX5_of_9 : decode cX5_of 9 = .ok (.ldc2_w 11, 3) := by decide +kernel
theorem dX5_of_12 : decode cX5_of 12 = .ok (.lcmp, 1) := by decide +kernel
theorem dX5_of_13 : decode cX5_of 13 = .ok (.ifCond .gt 9, 3) := by decide +kernel
theorem dX5_of_16 : decode cX5_of 16 = .ok (.lload_n 0, 1) := by decide +kernel
theorem dX5_of_17 : decode cX5_of 17 = .ok (.lload_n 2, 1) := by decide +kernel
theorem dX5_of_18 : decode cX5_of 18 = .ok (.lcmp, 1) := by decide +kernel
theorem dX5_of_19 : decode cX5_of 19 = .ok (.ifCond .le 7, 3) := by decide +kernel
theorem dX5_of_22 : decode cX5_of 22 = .ok (.ldc2_w 15, 3) := by decide +kernel
theorem dX5_of_25 : decode cX5_of 25 = .ok (.lreturn, 1) := by decide +kernel
theorem dX5_of_26 : decode cX5_of 26 = .ok (.lload_n 0, 1) := by decide +kernel
theorem dX5_of_27 : decode cX5_of 27 = .ok (.bipush 32, 2) := by decide +kernel
theorem dX5_of_29 : decode cX5_of 29 = .ok (.lshl, 1) := by decide +kernel
theorem dX5_of_30 : decode cX5_of 30 = .ok (.lload_n 2, 1) := by decide +kernel
theorem dX5_of_31 : decode cX5_of 31 = .ok (.ldc2_w 17, 3) := by decide +kernel
theorem dX5_of_34 : decode cX5_of 34 = .ok (.land, 1) := by decide +kernel
theorem dX5_of_35 : decode cX5_of 35 = .ok (.lor, 1) := by decide +kernel
theorem dX5_of_36 : decode cX5_of 36 = .ok (.lreturn, 1) := by decide +kernel
theorem dX5_lowOf_0 : decode cX5_lowOf 0 = .ok (.lload_n 0, 1) := by decide +kernel
theorem dX5_lowOf_1 : decode cX5_lowOf 1 = .ok (.bipush 32, 2) := by decide +kernel
theorem dX5_lowOf_3 : decode cX5_lowOf 3 = .ok (.lshr, 1) := by decide +kernel
theorem dX5_lowOf_4 : decode cX5_lowOf 4 = .ok (.lreturn, 1) := by decide +kernel
theorem dX5_highOf_0 : decode cX5_highOf 0 = .ok (.lload_n 0, 1) := by decide +kernel
theorem dX5_highOf_1 : decode cX5_highOf 1 = .ok (.l2i, 1) := by decide +kernel
theorem dX5_highOf_2 : decode cX5_highOf 2 = .ok (.i2l, 1) := by decide +kernel
theorem dX5_highOf_3 : decode cX5_highOf 3 = .ok (.lreturn, 1) := by decide +kernel
theorem dX5_isHole_0 : decode cX5_isHole 0 = .ok (.lload_n 0, 1) := by decide +kernel
theorem dX5_isHole_1 : decode cX5_isHole 1 = .ok (.ldc2_w 15, 3) := by decide +kernel
theorem dX5_isHole_4 : decode cX5_isHole 4 = .ok (.lcmp, 1) := by decide +kernel
theorem dX5_isHole_5 : decode cX5_isHole 5 = .ok (.ifCond .eq 11, 3) := by decide +kernel
theorem dX5_isHole_8 : decode cX5_isHole 8 = .ok (.lload_n 2, 1) := by decide +kernel
theorem dX5_isHole_9 : decode cX5_isHole 9 = .ok (.ldc2_w 15, 3) := by decide +kernel
theorem dX5_isHole_12 : decode cX5_isHole 12 = .ok (.lcmp, 1) := by decide +kernel
theorem dX5_isHole_13 : decode cX5_isHole 13 = .ok (.ifCond .ne 7, 3) := by decide +kernel
theorem dX5_isHole_16 : decode cX5_isHole 16 = .ok (.iconst 1, 1) := by decide +kernel
theorem dX5_isHole_17 : decode cX5_isHole 17 = .ok (.goto 4, 3) := by decide +kernel
theorem dX5_isHole_20 : decode cX5_isHole 20 = .ok (.iconst 0, 1) := by decide +kernel
theorem dX5_isHole_21 : decode cX5_isHole 21 = .ok (.ireturn, 1) := by decide +kernel
theorem dX5_hasNoZero_0 : decode cX5_hasNoZero 0 = .ok (.lload_n 0, 1) := by decide +kernel
theorem dX5_hasNoZero_1 : decode cX5_hasNoZero 1 = .ok (.ldc2_w 15, 3) := by decide +kernel
theorem dX5_hasNoZero_4 : decode cX5_hasNoZero 4 = .ok (.lcmp, 1) := by decide +kernel
theorem dX5_hasNoZero_5 : decode cX5_hasNoZero 5 = .ok (.ifCond .eq 25, 3) := by decide +kernel
theorem dX5_hasNoZero_8 : decode cX5_hasNoZero 8 = .ok (.lload_n 0, 1) := by decide +kernel
theorem dX5_hasNoZero_9 : decode cX5_hasNoZero 9 = .ok (.invokestatic 19, 3) := by decide +kernel
theorem dX5_hasNoZero_12 : decode cX5_hasNoZero 12 = .ok (.lconst 0, 1) := by decide +kernel
theorem dX5_hasNoZero_13 : decode cX5_hasNoZero 13 = .ok (.lcmp, 1) := by decide +kernel
theorem dX5_hasNoZero_14 : decode cX5_hasNoZero 14 = .ok (.ifCond .gt 12, 3) := by decide +kernel
theorem dX5_hasNoZero_17 : decode cX5_hasNoZero 17 = .ok (.lload_n 0, 1) := by decide +kernel
theorem dX5_hasNoZero_18 : decode cX5_hasNoZero 18 = .ok (.invokestatic 23, 3) := by decide +kernel
theorem dX5_hasNoZero_21 : decode cX5_hasNoZero 21 = .ok (.lconst 0, 1) := by decide +kernel
theorem dX5_hasNoZero_22 : decode cX5_hasNoZero 22 = .ok (.lcmp, 1) := by decide +kernel
theorem dX5_hasNoZero_23 : decode cX5_hasNoZero 23 = .ok (.ifCond .ge 7, 3) := by decide +kernel
theorem dX5_hasNoZero_26 : decode cX5_hasNoZero 26 = .ok (.iconst 1, 1) := by decide +kernel
theorem dX5_hasNoZero_27 : decode cX5_hasNoZero 27 = .ok (.goto 4, 3) := by decide +kernel
theorem dX5_hasNoZero_30 : decode cX5_hasNoZero 30 = .ok (.iconst 0, 1) := by decide +kernel
theorem dX5_hasNoZero_31 : decode cX5_hasNoZero 31 = .ok (.ireturn, 1) := by decide +kernel
theorem dX5_isApart_0 : decode cX5_isApart 0 = .ok (.lload_n 0, 1) := by decide +kernel
theorem dX5_isApart_1 : decode cX5_isApart 1 = .ok (.invokestatic 23, 3) := by decide +kernel
theorem dX5_isApart_4 : decode cX5_isApart 4 = .ok (.lload_n 2, 1) := by decide +kernel
theorem dX5_isApart_5 : decode cX5_isApart 5 = .ok (.invokestatic 19, 3) := by decide +kernel
theorem dX5_isApart_8 : decode cX5_isApart 8 = .ok (.lcmp, 1) := by decide +kernel
theorem dX5_isApart_9 : decode cX5_isApart 9 = .ok (.ifCond .gt 7, 3) := by decide +kernel
theorem dX5_isApart_12 : decode cX5_isApart 12 = .ok (.iconst 1, 1) := by decide +kernel
theorem dX5_isApart_13 : decode cX5_isApart 13 = .ok (.goto 4, 3) := by decide +kernel
theorem dX5_isApart_16 : decode cX5_isApart 16 = .ok (.iconst 0, 1) := by decide +kernel
theorem dX5_isApart_17 : decode cX5_isApart 17 = .ok (.ireturn, 1) := by decide +kernel
theorem dX5_plus_0 : decode cX5_plus 0 = .ok (.lload_n 0, 1) := by decide +kernel
theorem dX5_plus_1 : decode cX5_plus 1 = .ok (.lload_n 2, 1) := by decide +kernel
theorem dX5_plus_2 : decode cX5_plus 2 = .ok (.invokestatic 26, 3) := by decide +kernel
theorem dX5_plus_5 : decode cX5_plus 5 = .ok (.ifCond .eq 9, 3) := by decide +kernel
theorem dX5_plus_8 : decode cX5_plus 8 = .ok (.ldc2_w 15, 3) := by decide +kernel
theorem dX5_plus_11 : decode cX5_plus 11 = .ok (.goto 24, 3) := by decide +kernel
theorem dX5_plus_14 : decode cX5_plus 14 = .ok (.lload_n 0, 1) := by decide +kernel
theorem dX5_plus_15 : decode cX5_plus 15 = .ok (.invokestatic 19, 3) := by decide +kernel
theorem dX5_plus_18 : decode cX5_plus 18 = .ok (.lload_n 2, 1) := by decide +kernel
theorem dX5_plus_19 : decode cX5_plus 19 = .ok (.invokestatic 19, 3) := by decide +kernel
theorem dX5_plus_22 : decode cX5_plus 22 = .ok (.ladd, 1) := by decide +kernel
theorem dX5_plus_23 : decode cX5_plus 23 = .ok (.lload_n 0, 1) := by decide +kernel
theorem dX5_plus_24 : decode cX5_plus 24 = .ok (.invokestatic 23, 3) := by decide +kernel
theorem dX5_plus_27 : decode cX5_plus 27 = .ok (.lload_n 2, 1) := by decide +kernel
theorem dX5_plus_28 : decode cX5_plus 28 = .ok (.invokestatic 23, 3) := by decide +kernel
theorem dX5_plus_31 : decode cX5_plus 31 = .ok (.ladd, 1) := by decide +kernel
theorem dX5_plus_32 : decode cX5_plus 32 = .ok (.invokestatic 30, 3) := by decide +kernel
theorem dX5_plus_35 : decode cX5_plus 35 = .ok (.lreturn, 1) := by decide +kernel
theorem dX5_minus_0 : decode cX5_minus 0 = .ok (.lload_n 0, 1) := by decide +kernel
theorem dX5_minus_1 : decode cX5_minus 1 = .ok (.lload_n 2, 1) := by decide +kernel
theorem dX5_minus_2 : decode cX5_minus 2 = .ok (.invokestatic 26, 3) := by decide +kernel
theorem dX5_minus_5 : decode cX5_minus 5 = .ok (.ifCond .eq 9, 3) := by decide +kernel
theorem dX5_minus_8 : decode cX5_minus 8 = .ok (.ldc2_w 15, 3) := by decide +kernel
theorem dX5_minus_11 : decode cX5_minus 11 = .ok (.goto 24, 3) := by decide +kernel
theorem dX5_minus_14 : decode cX5_minus 14 = .ok (.lload_n 0, 1) := by decide +kernel
theorem dX5_minus_15 : decode cX5_minus 15 = .ok (.invokestatic 19, 3) := by decide +kernel
theorem dX5_minus_18 : decode cX5_minus 18 = .ok (.lload_n 2, 1) := by decide +kernel
theorem dX5_minus_19 : decode cX5_minus 19 = .ok (.invokestatic 23, 3) := by decide +kernel
theorem dX5_minus_22 : decode cX5_minus 22 = .ok (.lsub, 1) := by decide +kernel
theorem dX5_minus_23 : decode cX5_minus 23 = .ok (.lload_n 0, 1) := by decide +kernel
theorem dX5_minus_24 : decode cX5_minus 24 = .ok (.invokestatic 23, 3) := by decide +kernel
theorem dX5_minus_27 : decode cX5_minus 27 = .ok (.lload_n 2, 1) := by decide +kernel
theorem dX5_minus_28 : decode cX5_minus 28 = .ok (.invokestatic 19, 3) := by decide +kernel
theorem dX5_minus_31 : decode cX5_minus 31 = .ok (.lsub, 1) := by decide +kernel
theorem dX5_minus_32 : decode cX5_minus 32 = .ok (.invokestatic 30, 3) := by decide +kernel
theorem dX5_minus_35 : decode cX5_minus 35 = .ok (.lreturn, 1) := by decide +kernel
theorem dX5_turned_0 : decode cX5_turned 0 = .ok (.lload_n 0, 1) := by decide +kernel
theorem dX5_turned_1 : decode cX5_turned 1 = .ok (.ldc2_w 15, 3) := by decide +kernel
theorem dX5_turned_4 : decode cX5_turned 4 = .ok (.lcmp, 1) := by decide +kernel
theorem dX5_turned_5 : decode cX5_turned 5 = .ok (.ifCond .ne 9, 3) := by decide +kernel
theorem dX5_turned_8 : decode cX5_turned 8 = .ok (.ldc2_w 15, 3) := by decide +kernel
theorem dX5_turned_11 : decode cX5_turned 11 = .ok (.goto 16, 3) := by decide +kernel
theorem dX5_turned_14 : decode cX5_turned 14 = .ok (.lload_n 0, 1) := by decide +kernel
theorem dX5_turned_15 : decode cX5_turned 15 = .ok (.invokestatic 23, 3) := by decide +kernel
theorem dX5_turned_18 : decode cX5_turned 18 = .ok (.lneg, 1) := by decide +kernel
theorem dX5_turned_19 : decode cX5_turned 19 = .ok (.lload_n 0, 1) := by decide +kernel
theorem dX5_turned_20 : decode cX5_turned 20 = .ok (.invokestatic 19, 3) := by decide +kernel
theorem dX5_turned_23 : decode cX5_turned 23 = .ok (.lneg, 1) := by decide +kernel
theorem dX5_turned_24 : decode cX5_turned 24 = .ok (.invokestatic 30, 3) := by decide +kernel
theorem dX5_turned_27 : decode cX5_turned 27 = .ok (.lreturn, 1) := by decide +kernel
theorem dX5_times_0 : decode cX5_times 0 = .ok (.lload_n 0, 1) := by decide +kernel
theorem dX5_times_1 : decode cX5_times 1 = .ok (.lload_n 2, 1) := by decide +kernel
theorem dX5_times_2 : decode cX5_times 2 = .ok (.invokestatic 26, 3) := by decide +kernel
theorem dX5_times_5 : decode cX5_times 5 = .ok (.ifCond .eq 7, 3) := by decide +kernel
theorem dX5_times_8 : decode cX5_times 8 = .ok (.ldc2_w 15, 3) := by decide +kernel
theorem dX5_times_11 : decode cX5_times 11 = .ok (.lreturn, 1) := by decide +kernel
theorem dX5_times_12 : decode cX5_times 12 = .ok (.lload_n 0, 1) := by decide +kernel
theorem dX5_times_13 : decode cX5_times 13 = .ok (.invokestatic 19, 3) := by decide +kernel
theorem dX5_times_16 : decode cX5_times 16 = .ok (.lload_n 2, 1) := by decide +kernel
theorem dX5_times_17 : decode cX5_times 17 = .ok (.invokestatic 19, 3) := by decide +kernel
theorem dX5_times_20 : decode cX5_times 20 = .ok (.lmul, 1) := by decide +kernel
theorem dX5_times_21 : decode cX5_times 21 = .ok (.lstore 4, 2) := by decide +kernel
theorem dX5_times_23 : decode cX5_times 23 = .ok (.lload_n 0, 1) := by decide +kernel
theorem dX5_times_24 : decode cX5_times 24 = .ok (.invokestatic 19, 3) := by decide +kernel
theorem dX5_times_27 : decode cX5_times 27 = .ok (.lload_n 2, 1) := by decide +kernel
theorem dX5_times_28 : decode cX5_times 28 = .ok (.invokestatic 23, 3) := by decide +kernel
theorem dX5_times_31 : decode cX5_times 31 = .ok (.lmul, 1) := by decide +kernel
theorem dX5_times_32 : decode cX5_times 32 = .ok (.lstore 6, 2) := by decide +kernel
theorem dX5_times_34 : decode cX5_times 34 = .ok (.lload_n 0, 1) := by decide +kernel
theorem dX5_times_35 : decode cX5_times 35 = .ok (.invokestatic 23, 3) := by decide +kernel
theorem dX5_times_38 : decode cX5_times 38 = .ok (.lload_n 2, 1) := by decide +kernel
theorem dX5_times_39 : decode cX5_times 39 = .ok (.invokestatic 19, 3) := by decide +kernel
theorem dX5_times_42 : decode cX5_times 42 = .ok (.lmul, 1) := by decide +kernel
theorem dX5_times_43 : decode cX5_times 43 = .ok (.lstore 8, 2) := by decide +kernel
theorem dX5_times_45 : decode cX5_times 45 = .ok (.lload_n 0, 1) := by decide +kernel
theorem dX5_times_46 : decode cX5_times 46 = .ok (.invokestatic 23, 3) := by decide +kernel
theorem dX5_times_49 : decode cX5_times 49 = .ok (.lload_n 2, 1) := by decide +kernel
theorem dX5_times_50 : decode cX5_times 50 = .ok (.invokestatic 23, 3) := by decide +kernel
theorem dX5_times_53 : decode cX5_times 53 = .ok (.lmul, 1) := by decide +kernel
theorem dX5_times_54 : decode cX5_times 54 = .ok (.lstore 10, 2) := by decide +kernel
theorem dX5_times_56 : decode cX5_times 56 = .ok (.lload 4, 2) := by decide +kernel
theorem dX5_times_58 : decode cX5_times 58 = .ok (.lload 6, 2) := by decide +kernel
theorem dX5_times_60 : decode cX5_times 60 = .ok (.invokestatic 34, 3) := by decide +kernel
theorem dX5_times_63 : decode cX5_times 63 = .ok (.lload 8, 2) := by decide +kernel
theorem dX5_times_65 : decode cX5_times 65 = .ok (.lload 10, 2) := by decide +kernel
theorem dX5_times_67 : decode cX5_times 67 = .ok (.invokestatic 34, 3) := by decide +kernel
theorem dX5_times_70 : decode cX5_times 70 = .ok (.invokestatic 34, 3) := by decide +kernel
theorem dX5_times_73 : decode cX5_times 73 = .ok (.lstore 12, 2) := by decide +kernel
theorem dX5_times_75 : decode cX5_times 75 = .ok (.lload 4, 2) := by decide +kernel
theorem dX5_times_77 : decode cX5_times 77 = .ok (.lload 6, 2) := by decide +kernel
theorem dX5_times_79 : decode cX5_times 79 = .ok (.invokestatic 39, 3) := by decide +kernel
theorem dX5_times_82 : decode cX5_times 82 = .ok (.lload 8, 2) := by decide +kernel
theorem dX5_times_84 : decode cX5_times 84 = .ok (.lload 10, 2) := by decide +kernel
theorem dX5_times_86 : decode cX5_times 86 = .ok (.invokestatic 39, 3) := by decide +kernel
theorem dX5_times_89 : decode cX5_times 89 = .ok (.invokestatic 39, 3) := by decide +kernel
theorem dX5_times_92 : decode cX5_times 92 = .ok (.lstore 14, 2) := by decide +kernel
theorem dX5_times_94 : decode cX5_times 94 = .ok (.lload 12, 2) := by decide +kernel
theorem dX5_times_96 : decode cX5_times 96 = .ok (.bipush 20, 2) := by decide +kernel
theorem dX5_times_98 : decode cX5_times 98 = .ok (.lshr, 1) := by decide +kernel
theorem dX5_times_99 : decode cX5_times 99 = .ok (.lload 14, 2) := by decide +kernel
theorem dX5_times_101 : decode cX5_times 101 = .ok (.lneg, 1) := by decide +kernel
theorem dX5_times_102 : decode cX5_times 102 = .ok (.bipush 20, 2) := by decide +kernel
theorem dX5_times_104 : decode cX5_times 104 = .ok (.lshr, 1) := by decide +kernel
theorem dX5_times_105 : decode cX5_times 105 = .ok (.lneg, 1) := by decide +kernel
theorem dX5_times_106 : decode cX5_times 106 = .ok (.invokestatic 30, 3) := by decide +kernel
theorem dX5_times_109 : decode cX5_times 109 = .ok (.lreturn, 1) := by decide +kernel
theorem dX5_over_0 : decode cX5_over 0 = .ok (.lload_n 0, 1) := by decide +kernel
theorem dX5_over_1 : decode cX5_over 1 = .ok (.lload_n 2, 1) := by decide +kernel
theorem dX5_over_2 : decode cX5_over 2 = .ok (.invokestatic 26, 3) := by decide +kernel
theorem dX5_over_5 : decode cX5_over 5 = .ok (.ifCond .ne 10, 3) := by decide +kernel
theorem dX5_over_8 : decode cX5_over 8 = .ok (.lload_n 2, 1) := by decide +kernel
theorem dX5_over_9 : decode cX5_over 9 = .ok (.invokestatic 42, 3) := by decide +kernel
theorem dX5_over_12 : decode cX5_over 12 = .ok (.ifCond .ne 7, 3) := by decide +kernel
theorem dX5_over_15 : decode cX5_over 15 = .ok (.ldc2_w 15, 3) := by decide +kernel
theorem dX5_over_18 : decode cX5_over 18 = .ok (.lreturn, 1) := by decide +kernel
theorem dX5_over_19 : decode cX5_over 19 = .ok (.lload_n 0, 1) := by decide +kernel
theorem dX5_over_20 : decode cX5_over 20 = .ok (.invokestatic 19, 3) := by decide +kernel
theorem dX5_over_23 : decode cX5_over 23 = .ok (.bipush 20, 2) := by decide +kernel
theorem dX5_over_25 : decode cX5_over 25 = .ok (.lshl, 1) := by decide +kernel
theorem dX5_over_26 : decode cX5_over 26 = .ok (.lstore 4, 2) := by decide +kernel
theorem dX5_over_28 : decode cX5_over 28 = .ok (.lload_n 0, 1) := by decide +kernel
theorem dX5_over_29 : decode cX5_over 29 = .ok (.invokestatic 23, 3) := by decide +kernel
theorem dX5_over_32 : decode cX5_over 32 = .ok (.bipush 20, 2) := by decide +kernel
theorem dX5_over_34 : decode cX5_over 34 = .ok (.lshl, 1) := by decide +kernel
theorem dX5_over_35 : decode cX5_over 35 = .ok (.lstore 6, 2) := by decide +kernel
theorem dX5_over_37 : decode cX5_over 37 = .ok (.lload_n 2, 1) := by decide +kernel
theorem dX5_over_38 : decode cX5_over 38 = .ok (.invokestatic 19, 3) := by decide +kernel
theorem dX5_over_41 : decode cX5_over 41 = .ok (.lstore 8, 2) := by decide +kernel
theorem dX5_over_43 : decode cX5_over 43 = .ok (.lload_n 2, 1) := by decide +kernel
theorem dX5_over_44 : decode cX5_over 44 = .ok (.invokestatic 23, 3) := by decide +kernel
theorem dX5_over_47 : decode cX5_over 47 = .ok (.lstore 10, 2) := by decide +kernel
theorem dX5_over_49 : decode cX5_over 49 = .ok (.lload 8, 2) := by decide +kernel
theorem dX5_over_51 : decode cX5_over 51 = .ok (.lconst 0, 1) := by decide +kernel
theorem dX5_over_52 : decode cX5_over 52 = .ok (.lcmp, 1) := by decide +kernel
theorem dX5_over_53 : decode cX5_over 53 = .ok (.ifCond .eq 10, 3) := by decide +kernel
theorem dX5_over_56 : decode cX5_over 56 = .ok (.lload 10, 2) := by decide +kernel
theorem dX5_over_58 : decode cX5_over 58 = .ok (.lconst 0, 1) := by decide +kernel
theorem dX5_over_59 : decode cX5_over 59 = .ok (.lcmp, 1) := by decide +kernel
theorem dX5_over_60 : decode cX5_over 60 = .ok (.ifCond .ne 7, 3) := by decide +kernel
theorem dX5_over_63 : decode cX5_over 63 = .ok (.ldc2_w 15, 3) := by decide +kernel
theorem dX5_over_66 : decode cX5_over 66 = .ok (.lreturn, 1) := by decide +kernel
theorem dX5_over_67 : decode cX5_over 67 = .ok (.lload 4, 2) := by decide +kernel
theorem dX5_over_69 : decode cX5_over 69 = .ok (.lload 8, 2) := by decide +kernel
theorem dX5_over_71 : decode cX5_over 71 = .ok (.invokestatic 46, 3) := by decide +kernel
theorem dX5_over_74 : decode cX5_over 74 = .ok (.lload 4, 2) := by decide +kernel
theorem dX5_over_76 : decode cX5_over 76 = .ok (.lload 10, 2) := by decide +kernel
theorem dX5_over_78 : decode cX5_over 78 = .ok (.invokestatic 46, 3) := by decide +kernel
theorem dX5_over_81 : decode cX5_over 81 = .ok (.invokestatic 34, 3) := by decide +kernel
theorem dX5_over_84 : decode cX5_over 84 = .ok (.lload 6, 2) := by decide +kernel
theorem dX5_over_86 : decode cX5_over 86 = .ok (.lload 8, 2) := by decide +kernel
theorem dX5_over_88 : decode cX5_over 88 = .ok (.invokestatic 46, 3) := by decide +kernel
theorem dX5_over_91 : decode cX5_over 91 = .ok (.lload 6, 2) := by decide +kernel
theorem dX5_over_93 : decode cX5_over 93 = .ok (.lload 10, 2) := by decide +kernel
theorem dX5_over_95 : decode cX5_over 95 = .ok (.invokestatic 46, 3) := by decide +kernel
theorem dX5_over_98 : decode cX5_over 98 = .ok (.invokestatic 34, 3) := by decide +kernel
theorem dX5_over_101 : decode cX5_over 101 = .ok (.invokestatic 34, 3) := by decide +kernel
theorem dX5_over_104 : decode cX5_over 104 = .ok (.lstore 12, 2) := by decide +kernel
theorem dX5_over_106 : decode cX5_over 106 = .ok (.lload 4, 2) := by decide +kernel
theorem dX5_over_108 : decode cX5_over 108 = .ok (.lneg, 1) := by decide +kernel
theorem dX5_over_109 : decode cX5_over 109 = .ok (.lload 8, 2) := by decide +kernel
theorem dX5_over_111 : decode cX5_over 111 = .ok (.invokestatic 46, 3) := by decide +kernel
theorem dX5_over_114 : decode cX5_over 114 = .ok (.lload 4, 2) := by decide +kernel
theorem dX5_over_116 : decode cX5_over 116 = .ok (.lneg, 1) := by decide +kernel
theorem dX5_over_117 : decode cX5_over 117 = .ok (.lload 10, 2) := by decide +kernel
theorem dX5_over_119 : decode cX5_over 119 = .ok (.invokestatic 46, 3) := by decide +kernel
theorem dX5_over_122 : decode cX5_over 122 = .ok (.invokestatic 34, 3) := by decide +kernel
theorem dX5_over_125 : decode cX5_over 125 = .ok (.lload 6, 2) := by decide +kernel
theorem dX5_over_127 : decode cX5_over 127 = .ok (.lneg, 1) := by decide +kernel
theorem dX5_over_128 : decode cX5_over 128 = .ok (.lload 8, 2) := by decide +kernel
theorem dX5_over_130 : decode cX5_over 130 = .ok (.invokestatic 46, 3) := by decide +kernel
theorem dX5_over_133 : decode cX5_over 133 = .ok (.lload 6, 2) := by decide +kernel
theorem dX5_over_135 : decode cX5_over 135 = .ok (.lneg, 1) := by decide +kernel
theorem dX5_over_136 : decode cX5_over 136 = .ok (.lload 10, 2) := by decide +kernel
theorem dX5_over_138 : decode cX5_over 138 = .ok (.invokestatic 46, 3) := by decide +kernel
theorem dX5_over_141 : decode cX5_over 141 = .ok (.invokestatic 34, 3) := by decide +kernel
theorem dX5_over_144 : decode cX5_over 144 = .ok (.invokestatic 34, 3) := by decide +kernel
theorem dX5_over_147 : decode cX5_over 147 = .ok (.lneg, 1) := by decide +kernel
theorem dX5_over_148 : decode cX5_over 148 = .ok (.lstore 14, 2) := by decide +kernel
theorem dX5_over_150 : decode cX5_over 150 = .ok (.lload 12, 2) := by decide +kernel
theorem dX5_over_152 : decode cX5_over 152 = .ok (.lload 14, 2) := by decide +kernel
theorem dX5_over_154 : decode cX5_over 154 = .ok (.invokestatic 30, 3) := by decide +kernel
theorem dX5_over_157 : decode cX5_over 157 = .ok (.lreturn, 1) := by decide +kernel
theorem dX5_power_0 : decode cX5_power 0 = .ok (.lload_n 0, 1) := by decide +kernel
theorem dX5_power_1 : decode cX5_power 1 = .ok (.ldc2_w 15, 3) := by decide +kernel
theorem dX5_power_4 : decode cX5_power 4 = .ok (.lcmp, 1) := by decide +kernel
theorem dX5_power_5 : decode cX5_power 5 = .ok (.ifCond .ne 7, 3) := by decide +kernel
theorem dX5_power_8 : decode cX5_power 8 = .ok (.ldc2_w 15, 3) := by decide +kernel
theorem dX5_power_11 : decode cX5_power 11 = .ok (.lreturn, 1) := by decide +kernel
theorem dX5_power_12 : decode cX5_power 12 = .ok (.lload_n 0, 1) := by decide +kernel
theorem dX5_power_13 : decode cX5_power 13 = .ok (.invokestatic 19, 3) := by decide +kernel
theorem dX5_power_16 : decode cX5_power 16 = .ok (.lstore 4, 2) := by decide +kernel
theorem dX5_power_18 : decode cX5_power 18 = .ok (.lload_n 0, 1) := by decide +kernel
theorem dX5_power_19 : decode cX5_power 19 = .ok (.invokestatic 23, 3) := by decide +kernel
theorem dX5_power_22 : decode cX5_power 22 = .ok (.lstore 6, 2) := by decide +kernel
theorem dX5_power_24 : decode cX5_power 24 = .ok (.lload_n 2, 1) := by decide +kernel
theorem dX5_power_25 : decode cX5_power 25 = .ok (.lconst 1, 1) := by decide +kernel
theorem dX5_power_26 : decode cX5_power 26 = .ok (.land, 1) := by decide +kernel
theorem dX5_power_27 : decode cX5_power 27 = .ok (.lconst 1, 1) := by decide +kernel
theorem dX5_power_28 : decode cX5_power 28 = .ok (.lcmp, 1) := by decide +kernel
theorem dX5_power_29 : decode cX5_power 29 = .ok (.ifCond .ne 63, 3) := by decide +kernel
theorem dX5_power_32 : decode cX5_power 32 = .ok (.lload 4, 2) := by decide +kernel
theorem dX5_power_34 : decode cX5_power 34 = .ok (.lconst 0, 1) := by decide +kernel
theorem dX5_power_35 : decode cX5_power 35 = .ok (.lcmp, 1) := by decide +kernel
theorem dX5_power_36 : decode cX5_power 36 = .ok (.ifCond .ge 14, 3) := by decide +kernel
theorem dX5_power_39 : decode cX5_power 39 = .ok (.lload 4, 2) := by decide +kernel
theorem dX5_power_41 : decode cX5_power 41 = .ok (.lneg, 1) := by decide +kernel
theorem dX5_power_42 : decode cX5_power 42 = .ok (.lload_n 2, 1) := by decide +kernel
theorem dX5_power_43 : decode cX5_power 43 = .ok (.invokestatic 49, 3) := by decide +kernel
theorem dX5_power_46 : decode cX5_power 46 = .ok (.lneg, 1) := by decide +kernel
theorem dX5_power_47 : decode cX5_power 47 = .ok (.goto 9, 3) := by decide +kernel
theorem dX5_power_50 : decode cX5_power 50 = .ok (.lload 4, 2) := by decide +kernel
theorem dX5_power_52 : decode cX5_power 52 = .ok (.lload_n 2, 1) := by decide +kernel
theorem dX5_power_53 : decode cX5_power 53 = .ok (.invokestatic 52, 3) := by decide +kernel
theorem dX5_power_56 : decode cX5_power 56 = .ok (.lstore 8, 2) := by decide +kernel
theorem dX5_power_58 : decode cX5_power 58 = .ok (.lload 6, 2) := by decide +kernel
theorem dX5_power_60 : decode cX5_power 60 = .ok (.lconst 0, 1) := by decide +kernel
theorem dX5_power_61 : decode cX5_power 61 = .ok (.lcmp, 1) := by decide +kernel
theorem dX5_power_62 : decode cX5_power 62 = .ok (.ifCond .ge 14, 3) := by decide +kernel
theorem dX5_power_65 : decode cX5_power 65 = .ok (.lload 6, 2) := by decide +kernel
theorem dX5_power_67 : decode cX5_power 67 = .ok (.lneg, 1) := by decide +kernel
theorem dX5_power_68 : decode cX5_power 68 = .ok (.lload_n 2, 1) := by decide +kernel
theorem dX5_power_69 : decode cX5_power 69 = .ok (.invokestatic 52, 3) := by decide +kernel
theorem dX5_power_72 : decode cX5_power 72 = .ok (.lneg, 1) := by decide +kernel
theorem dX5_power_73 : decode cX5_power 73 = .ok (.goto 9, 3) := by decide +kernel
theorem dX5_power_76 : decode cX5_power 76 = .ok (.lload 6, 2) := by decide +kernel
theorem dX5_power_78 : decode cX5_power 78 = .ok (.lload_n 2, 1) := by decide +kernel
theorem dX5_power_79 : decode cX5_power 79 = .ok (.invokestatic 49, 3) := by decide +kernel
theorem dX5_power_82 : decode cX5_power 82 = .ok (.lstore 10, 2) := by decide +kernel
theorem dX5_power_84 : decode cX5_power 84 = .ok (.lload 8, 2) := by decide +kernel
theorem dX5_power_86 : decode cX5_power 86 = .ok (.lload 10, 2) := by decide +kernel
theorem dX5_power_88 : decode cX5_power 88 = .ok (.invokestatic 30, 3) := by decide +kernel
theorem dX5_power_91 : decode cX5_power 91 = .ok (.lreturn, 1) := by decide +kernel
theorem dX5_power_92 : decode cX5_power 92 = .ok (.lload 4, 2) := by decide +kernel
theorem dX5_power_94 : decode cX5_power 94 = .ok (.lconst 0, 1) := by decide +kernel
theorem dX5_power_95 : decode cX5_power 95 = .ok (.lcmp, 1) := by decide +kernel
theorem dX5_power_96 : decode cX5_power 96 = .ok (.ifCond .gt 14, 3) := by decide +kernel
theorem dX5_power_99 : decode cX5_power 99 = .ok (.lload 6, 2) := by decide +kernel
theorem dX5_power_101 : decode cX5_power 101 = .ok (.lconst 0, 1) := by decide +kernel
theorem dX5_power_102 : decode cX5_power 102 = .ok (.lcmp, 1) := by decide +kernel
theorem dX5_power_103 : decode cX5_power 103 = .ok (.ifCond .lt 7, 3) := by decide +kernel
theorem dX5_power_106 : decode cX5_power 106 = .ok (.lconst 0, 1) := by decide +kernel
theorem dX5_power_107 : decode cX5_power 107 = .ok (.goto 16, 3) := by decide +kernel
theorem dX5_power_110 : decode cX5_power 110 = .ok (.lload 4, 2) := by decide +kernel
theorem dX5_power_112 : decode cX5_power 112 = .ok (.invokestatic 55, 3) := by decide +kernel
theorem dX5_power_115 : decode cX5_power 115 = .ok (.lload 6, 2) := by decide +kernel
theorem dX5_power_117 : decode cX5_power 117 = .ok (.invokestatic 55, 3) := by decide +kernel
theorem dX5_power_120 : decode cX5_power 120 = .ok (.invokestatic 34, 3) := by decide +kernel
theorem dX5_power_123 : decode cX5_power 123 = .ok (.lstore 8, 2) := by decide +kernel
theorem dX5_power_125 : decode cX5_power 125 = .ok (.lload 8, 2) := by decide +kernel
theorem dX5_power_127 : decode cX5_power 127 = .ok (.lload_n 2, 1) := by decide +kernel
theorem dX5_power_128 : decode cX5_power 128 = .ok (.invokestatic 52, 3) := by decide +kernel
theorem dX5_power_131 : decode cX5_power 131 = .ok (.lload 4, 2) := by decide +kernel
theorem dX5_power_133 : decode cX5_power 133 = .ok (.invokestatic 55, 3) := by decide +kernel
theorem dX5_power_136 : decode cX5_power 136 = .ok (.lload 6, 2) := by decide +kernel
theorem dX5_power_138 : decode cX5_power 138 = .ok (.invokestatic 55, 3) := by decide +kernel
theorem dX5_power_141 : decode cX5_power 141 = .ok (.invokestatic 39, 3) := by decide +kernel
theorem dX5_power_144 : decode cX5_power 144 = .ok (.lload_n 2, 1) := by decide +kernel
theorem dX5_power_145 : decode cX5_power 145 = .ok (.invokestatic 49, 3) := by decide +kernel
theorem dX5_power_148 : decode cX5_power 148 = .ok (.invokestatic 30, 3) := by decide +kernel
theorem dX5_power_151 : decode cX5_power 151 = .ok (.lreturn, 1) := by decide +kernel
theorem dX5_grownDown_0 : decode cX5_grownDown 0 = .ok (.lload_n 0, 1) := by decide +kernel
theorem dX5_grownDown_1 : decode cX5_grownDown 1 = .ok (.lstore 4, 2) := by decide +kernel
theorem dX5_grownDown_3 : decode cX5_grownDown 3 = .ok (.lconst 1, 1) := by decide +kernel
theorem dX5_grownDown_4 : decode cX5_grownDown 4 = .ok (.lstore 6, 2) := by decide +kernel
theorem dX5_grownDown_6 : decode cX5_grownDown 6 = .ok (.lload 6, 2) := by decide +kernel
theorem dX5_grownDown_8 : decode cX5_grownDown 8 = .ok (.lload_n 2, 1) := by decide +kernel
theorem dX5_grownDown_9 : decode cX5_grownDown 9 = .ok (.lcmp, 1) := by decide +kernel
theorem dX5_grownDown_10 : decode cX5_grownDown 10 = .ok (.ifCond .ge 30, 3) := by decide +kernel
theorem dX5_grownDown_13 : decode cX5_grownDown 13 = .ok (.lload 4, 2) := by decide +kernel
theorem dX5_grownDown_15 : decode cX5_grownDown 15 = .ok (.ldc2_w 58, 3) := by decide +kernel
theorem dX5_grownDown_18 : decode cX5_grownDown 18 = .ok (.lcmp, 1) := by decide +kernel
theorem dX5_grownDown_19 : decode cX5_grownDown 19 = .ok (.ifCond .gt 21, 3) := by decide +kernel
theorem dX5_grownDown_22 : decode cX5_grownDown 22 = .ok (.lload 4, 2) := by decide +kernel
theorem dX5_grownDown_24 : decode cX5_grownDown 24 = .ok (.lload_n 0, 1) := by decide +kernel
theorem dX5_grownDown_25 : decode cX5_grownDown 25 = .ok (.lmul, 1) := by decide +kernel
theorem dX5_grownDown_26 : decode cX5_grownDown 26 = .ok (.bipush 20, 2) := by decide +kernel
theorem dX5_grownDown_28 : decode cX5_grownDown 28 = .ok (.lshr, 1) := by decide +kernel
theorem dX5_grownDown_29 : decode cX5_grownDown 29 = .ok (.lstore 4, 2) := by decide +kernel
theorem dX5_grownDown_31 : decode cX5_grownDown 31 = .ok (.lload 6, 2) := by decide +kernel
theorem dX5_grownDown_33 : decode cX5_grownDown 33 = .ok (.lconst 1, 1) := by decide +kernel
theorem dX5_grownDown_34 : decode cX5_grownDown 34 = .ok (.ladd, 1) := by decide +kernel
theorem dX5_grownDown_35 : decode cX5_grownDown 35 = .ok (.lstore 6, 2) := by decide +kernel
theorem dX5_grownDown_37 : decode cX5_grownDown 37 = .ok (.goto (-31), 3) := by decide +kernel
theorem dX5_grownDown_40 : decode cX5_grownDown 40 = .ok (.lload 4, 2) := by decide +kernel
theorem dX5_grownDown_42 : decode cX5_grownDown 42 = .ok (.ldc2_w 58, 3) := by decide +kernel
theorem dX5_grownDown_45 : decode cX5_grownDown 45 = .ok (.lcmp, 1) := by decide +kernel
theorem dX5_grownDown_46 : decode cX5_grownDown 46 = .ok (.ifCond .le 9, 3) := by decide +kernel
theorem dX5_grownDown_49 : decode cX5_grownDown 49 = .ok (.ldc2_w 60, 3) := by decide +kernel
theorem dX5_grownDown_52 : decode cX5_grownDown 52 = .ok (.goto 5, 3) := by decide +kernel
theorem dX5_grownDown_55 : decode cX5_grownDown 55 = .ok (.lload 4, 2) := by decide +kernel
theorem dX5_grownDown_57 : decode cX5_grownDown 57 = .ok (.lreturn, 1) := by decide +kernel
theorem dX5_grownUp_0 : decode cX5_grownUp 0 = .ok (.lload_n 0, 1) := by decide +kernel
theorem dX5_grownUp_1 : decode cX5_grownUp 1 = .ok (.lstore 4, 2) := by decide +kernel
theorem dX5_grownUp_3 : decode cX5_grownUp 3 = .ok (.lconst 1, 1) := by decide +kernel
theorem dX5_grownUp_4 : decode cX5_grownUp 4 = .ok (.lstore 6, 2) := by decide +kernel
theorem dX5_grownUp_6 : decode cX5_grownUp 6 = .ok (.lload 6, 2) := by decide +kernel
theorem dX5_grownUp_8 : decode cX5_grownUp 8 = .ok (.lload_n 2, 1) := by decide +kernel
theorem dX5_grownUp_9 : decode cX5_grownUp 9 = .ok (.lcmp, 1) := by decide +kernel
theorem dX5_grownUp_10 : decode cX5_grownUp 10 = .ok (.ifCond .ge 36, 3) := by decide +kernel
theorem dX5_grownUp_13 : decode cX5_grownUp 13 = .ok (.lload 4, 2) := by decide +kernel
theorem dX5_grownUp_15 : decode cX5_grownUp 15 = .ok (.ldc2_w 58, 3) := by decide +kernel
theorem dX5_grownUp_18 : decode cX5_grownUp 18 = .ok (.lcmp, 1) := by decide +kernel
theorem dX5_grownUp_19 : decode cX5_grownUp 19 = .ok (.ifCond .gt 27, 3) := by decide +kernel
theorem dX5_grownUp_22 : decode cX5_grownUp 22 = .ok (.lload 4, 2) := by decide +kernel
theorem dX5_grownUp_24 : decode cX5_grownUp 24 = .ok (.lload_n 0, 1) := by decide +kernel
theorem dX5_grownUp_25 : decode cX5_grownUp 25 = .ok (.lmul, 1) := by decide +kernel
theorem dX5_grownUp_26 : decode cX5_grownUp 26 = .ok (.ldc2_w 62, 3) := by decide +kernel
theorem dX5_grownUp_29 : decode cX5_grownUp 29 = .ok (.ladd, 1) := by decide +kernel
theorem dX5_grownUp_30 : decode cX5_grownUp 30 = .ok (.lconst 1, 1) := by decide +kernel
theorem dX5_grownUp_31 : decode cX5_grownUp 31 = .ok (.lsub, 1) := by decide +kernel
theorem dX5_grownUp_32 : decode cX5_grownUp 32 = .ok (.bipush 20, 2) := by decide +kernel
theorem dX5_grownUp_34 : decode cX5_grownUp 34 = .ok (.lshr, 1) := by decide +kernel
theorem dX5_grownUp_35 : decode cX5_grownUp 35 = .ok (.lstore 4, 2) := by decide +kernel
theorem dX5_grownUp_37 : decode cX5_grownUp 37 = .ok (.lload 6, 2) := by decide +kernel
theorem dX5_grownUp_39 : decode cX5_grownUp 39 = .ok (.lconst 1, 1) := by decide +kernel
theorem dX5_grownUp_40 : decode cX5_grownUp 40 = .ok (.ladd, 1) := by decide +kernel
theorem dX5_grownUp_41 : decode cX5_grownUp 41 = .ok (.lstore 6, 2) := by decide +kernel
theorem dX5_grownUp_43 : decode cX5_grownUp 43 = .ok (.goto (-37), 3) := by decide +kernel
theorem dX5_grownUp_46 : decode cX5_grownUp 46 = .ok (.lload 4, 2) := by decide +kernel
theorem dX5_grownUp_48 : decode cX5_grownUp 48 = .ok (.ldc2_w 58, 3) := by decide +kernel
theorem dX5_grownUp_51 : decode cX5_grownUp 51 = .ok (.lcmp, 1) := by decide +kernel
theorem dX5_grownUp_52 : decode cX5_grownUp 52 = .ok (.ifCond .le 9, 3) := by decide +kernel
theorem dX5_grownUp_55 : decode cX5_grownUp 55 = .ok (.ldc2_w 60, 3) := by decide +kernel
theorem dX5_grownUp_58 : decode cX5_grownUp 58 = .ok (.goto 5, 3) := by decide +kernel
theorem dX5_grownUp_61 : decode cX5_grownUp 61 = .ok (.lload 4, 2) := by decide +kernel
theorem dX5_grownUp_63 : decode cX5_grownUp 63 = .ok (.lreturn, 1) := by decide +kernel
theorem dX5_size_0 : decode cX5_size 0 = .ok (.lload_n 0, 1) := by decide +kernel
theorem dX5_size_1 : decode cX5_size 1 = .ok (.ldc2_w 15, 3) := by decide +kernel
theorem dX5_size_4 : decode cX5_size 4 = .ok (.lcmp, 1) := by decide +kernel
theorem dX5_size_5 : decode cX5_size 5 = .ok (.ifCond .eq 12, 3) := by decide +kernel
theorem dX5_size_8 : decode cX5_size 8 = .ok (.lload_n 0, 1) := by decide +kernel
theorem dX5_size_9 : decode cX5_size 9 = .ok (.invokestatic 19, 3) := by decide +kernel
theorem dX5_size_12 : decode cX5_size 12 = .ok (.lconst 0, 1) := by decide +kernel
theorem dX5_size_13 : decode cX5_size 13 = .ok (.lcmp, 1) := by decide +kernel
theorem dX5_size_14 : decode cX5_size 14 = .ok (.ifCond .lt 5, 3) := by decide +kernel
theorem dX5_size_17 : decode cX5_size 17 = .ok (.lload_n 0, 1) := by decide +kernel
theorem dX5_size_18 : decode cX5_size 18 = .ok (.lreturn, 1) := by decide +kernel
theorem dX5_size_19 : decode cX5_size 19 = .ok (.lload_n 0, 1) := by decide +kernel
theorem dX5_size_20 : decode cX5_size 20 = .ok (.invokestatic 23, 3) := by decide +kernel
theorem dX5_size_23 : decode cX5_size 23 = .ok (.lconst 0, 1) := by decide +kernel
theorem dX5_size_24 : decode cX5_size 24 = .ok (.lcmp, 1) := by decide +kernel
theorem dX5_size_25 : decode cX5_size 25 = .ok (.ifCond .gt 10, 3) := by decide +kernel
theorem dX5_size_28 : decode cX5_size 28 = .ok (.lload_n 0, 1) := by decide +kernel
theorem dX5_size_29 : decode cX5_size 29 = .ok (.invokestatic 64, 3) := by decide +kernel
theorem dX5_size_32 : decode cX5_size 32 = .ok (.goto 19, 3) := by decide +kernel
theorem dX5_size_35 : decode cX5_size 35 = .ok (.lconst 0, 1) := by decide +kernel
theorem dX5_size_36 : decode cX5_size 36 = .ok (.lload_n 0, 1) := by decide +kernel
theorem dX5_size_37 : decode cX5_size 37 = .ok (.invokestatic 19, 3) := by decide +kernel
theorem dX5_size_40 : decode cX5_size 40 = .ok (.lneg, 1) := by decide +kernel
theorem dX5_size_41 : decode cX5_size 41 = .ok (.lload_n 0, 1) := by decide +kernel
theorem dX5_size_42 : decode cX5_size 42 = .ok (.invokestatic 23, 3) := by decide +kernel
theorem dX5_size_45 : decode cX5_size 45 = .ok (.invokestatic 39, 3) := by decide +kernel
theorem dX5_size_48 : decode cX5_size 48 = .ok (.invokestatic 30, 3) := by decide +kernel
theorem dX5_size_51 : decode cX5_size 51 = .ok (.lreturn, 1) := by decide +kernel
theorem dX5_lesser_0 : decode cX5_lesser 0 = .ok (.lload_n 0, 1) := by decide +kernel
theorem dX5_lesser_1 : decode cX5_lesser 1 = .ok (.lload_n 2, 1) := by decide +kernel
theorem dX5_lesser_2 : decode cX5_lesser 2 = .ok (.invokestatic 26, 3) := by decide +kernel
theorem dX5_lesser_5 : decode cX5_lesser 5 = .ok (.ifCond .eq 9, 3) := by decide +kernel
theorem dX5_lesser_8 : decode cX5_lesser 8 = .ok (.ldc2_w 15, 3) := by decide +kernel
theorem dX5_lesser_11 : decode cX5_lesser 11 = .ok (.goto 28, 3) := by decide +kernel
theorem dX5_lesser_14 : decode cX5_lesser 14 = .ok (.lload_n 0, 1) := by decide +kernel
theorem dX5_lesser_15 : decode cX5_lesser 15 = .ok (.invokestatic 19, 3) := by decide +kernel
theorem dX5_lesser_18 : decode cX5_lesser 18 = .ok (.lload_n 2, 1) := by decide +kernel
theorem dX5_lesser_19 : decode cX5_lesser 19 = .ok (.invokestatic 19, 3) := by decide +kernel
theorem dX5_lesser_22 : decode cX5_lesser 22 = .ok (.invokestatic 34, 3) := by decide +kernel
theorem dX5_lesser_25 : decode cX5_lesser 25 = .ok (.lload_n 0, 1) := by decide +kernel
theorem dX5_lesser_26 : decode cX5_lesser 26 = .ok (.invokestatic 23, 3) := by decide +kernel
theorem dX5_lesser_29 : decode cX5_lesser 29 = .ok (.lload_n 2, 1) := by decide +kernel
theorem dX5_lesser_30 : decode cX5_lesser 30 = .ok (.invokestatic 23, 3) := by decide +kernel
theorem dX5_lesser_33 : decode cX5_lesser 33 = .ok (.invokestatic 34, 3) := by decide +kernel
theorem dX5_lesser_36 : decode cX5_lesser 36 = .ok (.invokestatic 30, 3) := by decide +kernel
theorem dX5_lesser_39 : decode cX5_lesser 39 = .ok (.lreturn, 1) := by decide +kernel
theorem dX5_greater_0 : decode cX5_greater 0 = .ok (.lload_n 0, 1) := by decide +kernel
theorem dX5_greater_1 : decode cX5_greater 1 = .ok (.lload_n 2, 1) := by decide +kernel
theorem dX5_greater_2 : decode cX5_greater 2 = .ok (.invokestatic 26, 3) := by decide +kernel
theorem dX5_greater_5 : decode cX5_greater 5 = .ok (.ifCond .eq 9, 3) := by decide +kernel
theorem dX5_greater_8 : decode cX5_greater 8 = .ok (.ldc2_w 15, 3) := by decide +kernel
theorem dX5_greater_11 : decode cX5_greater 11 = .ok (.goto 28, 3) := by decide +kernel
theorem dX5_greater_14 : decode cX5_greater 14 = .ok (.lload_n 0, 1) := by decide +kernel
theorem dX5_greater_15 : decode cX5_greater 15 = .ok (.invokestatic 19, 3) := by decide +kernel
theorem dX5_greater_18 : decode cX5_greater 18 = .ok (.lload_n 2, 1) := by decide +kernel
theorem dX5_greater_19 : decode cX5_greater 19 = .ok (.invokestatic 19, 3) := by decide +kernel
theorem dX5_greater_22 : decode cX5_greater 22 = .ok (.invokestatic 39, 3) := by decide +kernel
theorem dX5_greater_25 : decode cX5_greater 25 = .ok (.lload_n 0, 1) := by decide +kernel
theorem dX5_greater_26 : decode cX5_greater 26 = .ok (.invokestatic 23, 3) := by decide +kernel
theorem dX5_greater_29 : decode cX5_greater 29 = .ok (.lload_n 2, 1) := by decide +kernel
theorem dX5_greater_30 : decode cX5_greater 30 = .ok (.invokestatic 23, 3) := by decide +kernel
theorem dX5_greater_33 : decode cX5_greater 33 = .ok (.invokestatic 39, 3) := by decide +kernel
theorem dX5_greater_36 : decode cX5_greater 36 = .ok (.invokestatic 30, 3) := by decide +kernel
theorem dX5_greater_39 : decode cX5_greater 39 = .ok (.lreturn, 1) := by decide +kernel
theorem dX5_together_0 : decode cX5_together 0 = .ok (.lload_n 0, 1) := by decide +kernel
theorem dX5_together_1 : decode cX5_together 1 = .ok (.lload_n 2, 1) := by decide +kernel
theorem dX5_together_2 : decode cX5_together 2 = .ok (.invokestatic 26, 3) := by decide +kernel
theorem dX5_together_5 : decode cX5_together 5 = .ok (.ifCond .eq 9, 3) := by decide +kernel
theorem dX5_together_8 : decode cX5_together 8 = .ok (.ldc2_w 15, 3) := by decide +kernel
theorem dX5_together_11 : decode cX5_together 11 = .ok (.goto 28, 3) := by decide +kernel
theorem dX5_together_14 : decode cX5_together 14 = .ok (.lload_n 0, 1) := by decide +kernel
theorem dX5_together_15 : decode cX5_together 15 = .ok (.invokestatic 19, 3) := by decide +kernel
theorem dX5_together_18 : decode cX5_together 18 = .ok (.lload_n 2, 1) := by decide +kernel
theorem dX5_together_19 : decode cX5_together 19 = .ok (.invokestatic 19, 3) := by decide +kernel
theorem dX5_together_22 : decode cX5_together 22 = .ok (.invokestatic 34, 3) := by decide +kernel
theorem dX5_together_25 : decode cX5_together 25 = .ok (.lload_n 0, 1) := by decide +kernel
theorem dX5_together_26 : decode cX5_together 26 = .ok (.invokestatic 23, 3) := by decide +kernel
theorem dX5_together_29 : decode cX5_together 29 = .ok (.lload_n 2, 1) := by decide +kernel
theorem dX5_together_30 : decode cX5_together 30 = .ok (.invokestatic 23, 3) := by decide +kernel
theorem dX5_together_33 : decode cX5_together 33 = .ok (.invokestatic 39, 3) := by decide +kernel
theorem dX5_together_36 : decode cX5_together 36 = .ok (.invokestatic 30, 3) := by decide +kernel
theorem dX5_together_39 : decode cX5_together 39 = .ok (.lreturn, 1) := by decide +kernel
theorem dX5_root_0 : decode cX5_root 0 = .ok (.lload_n 0, 1) := by decide +kernel
theorem dX5_root_1 : decode cX5_root 1 = .ok (.ldc2_w 15, 3) := by decide +kernel
theorem dX5_root_4 : decode cX5_root 4 = .ok (.lcmp, 1) := by decide +kernel
theorem dX5_root_5 : decode cX5_root 5 = .ok (.ifCond .eq 12, 3) := by decide +kernel
theorem dX5_root_8 : decode cX5_root 8 = .ok (.lload_n 0, 1) := by decide +kernel
theorem dX5_root_9 : decode cX5_root 9 = .ok (.invokestatic 19, 3) := by decide +kernel
theorem dX5_root_12 : decode cX5_root 12 = .ok (.lconst 0, 1) := by decide +kernel
theorem dX5_root_13 : decode cX5_root 13 = .ok (.lcmp, 1) := by decide +kernel
theorem dX5_root_14 : decode cX5_root 14 = .ok (.ifCond .ge 7, 3) := by decide +kernel
theorem dX5_root_17 : decode cX5_root 17 = .ok (.ldc2_w 15, 3) := by decide +kernel
theorem dX5_root_20 : decode cX5_root 20 = .ok (.lreturn, 1) := by decide +kernel
theorem dX5_root_21 : decode cX5_root 21 = .ok (.lload_n 0, 1) := by decide +kernel
theorem dX5_root_22 : decode cX5_root 22 = .ok (.invokestatic 23, 3) := by decide +kernel
theorem dX5_root_25 : decode cX5_root 25 = .ok (.bipush 20, 2) := by decide +kernel
theorem dX5_root_27 : decode cX5_root 27 = .ok (.lshl, 1) := by decide +kernel
theorem dX5_root_28 : decode cX5_root 28 = .ok (.lstore_n 2, 1) := by decide +kernel
theorem dX5_root_29 : decode cX5_root 29 = .ok (.lload_n 2, 1) := by decide +kernel
theorem dX5_root_30 : decode cX5_root 30 = .ok (.invokestatic 67, 3) := by decide +kernel
theorem dX5_root_33 : decode cX5_root 33 = .ok (.lstore 4, 2) := by decide +kernel
theorem dX5_root_35 : decode cX5_root 35 = .ok (.lload_n 0, 1) := by decide +kernel
theorem dX5_root_36 : decode cX5_root 36 = .ok (.invokestatic 19, 3) := by decide +kernel
theorem dX5_root_39 : decode cX5_root 39 = .ok (.bipush 20, 2) := by decide +kernel
theorem dX5_root_41 : decode cX5_root 41 = .ok (.lshl, 1) := by decide +kernel
theorem dX5_root_42 : decode cX5_root 42 = .ok (.invokestatic 67, 3) := by decide +kernel
theorem dX5_root_45 : decode cX5_root 45 = .ok (.lload 4, 2) := by decide +kernel
theorem dX5_root_47 : decode cX5_root 47 = .ok (.lload 4, 2) := by decide +kernel
theorem dX5_root_49 : decode cX5_root 49 = .ok (.lmul, 1) := by decide +kernel
theorem dX5_root_50 : decode cX5_root 50 = .ok (.lload_n 2, 1) := by decide +kernel
theorem dX5_root_51 : decode cX5_root 51 = .ok (.lcmp, 1) := by decide +kernel
theorem dX5_root_52 : decode cX5_root 52 = .ok (.ifCond .ge 10, 3) := by decide +kernel
theorem dX5_root_55 : decode cX5_root 55 = .ok (.lload 4, 2) := by decide +kernel
theorem dX5_root_57 : decode cX5_root 57 = .ok (.lconst 1, 1) := by decide +kernel
theorem dX5_root_58 : decode cX5_root 58 = .ok (.ladd, 1) := by decide +kernel
theorem dX5_root_59 : decode cX5_root 59 = .ok (.goto 5, 3) := by decide +kernel
theorem dX5_root_62 : decode cX5_root 62 = .ok (.lload 4, 2) := by decide +kernel
theorem dX5_root_64 : decode cX5_root 64 = .ok (.invokestatic 30, 3) := by decide +kernel
theorem dX5_root_67 : decode cX5_root 67 = .ok (.lreturn, 1) := by decide +kernel
theorem dX5_rootDown_0 : decode cX5_rootDown 0 = .ok (.lconst 0, 1) := by decide +kernel
theorem dX5_rootDown_1 : decode cX5_rootDown 1 = .ok (.lstore_n 2, 1) := by decide +kernel
theorem dX5_rootDown_2 : decode cX5_rootDown 2 = .ok (.bipush 26, 2) := by decide +kernel
theorem dX5_rootDown_4 : decode cX5_rootDown 4 = .ok (.istore 4, 2) := by decide +kernel
theorem dX5_rootDown_6 : decode cX5_rootDown 6 = .ok (.iload 4, 2) := by decide +kernel
theorem dX5_rootDown_8 : decode cX5_rootDown 8 = .ok (.ifCond .lt 30, 3) := by decide +kernel
theorem dX5_rootDown_11 : decode cX5_rootDown 11 = .ok (.lload_n 2, 1) := by decide +kernel
theorem dX5_rootDown_12 : decode cX5_rootDown 12 = .ok (.lconst 1, 1) := by decide +kernel
theorem dX5_rootDown_13 : decode cX5_rootDown 13 = .ok (.iload 4, 2) := by decide +kernel
theorem dX5_rootDown_15 : decode cX5_rootDown 15 = .ok (.lshl, 1) := by decide +kernel
theorem dX5_rootDown_16 : decode cX5_rootDown 16 = .ok (.lor, 1) := by decide +kernel
theorem dX5_rootDown_17 : decode cX5_rootDown 17 = .ok (.lstore 5, 2) := by decide +kernel
theorem dX5_rootDown_19 : decode cX5_rootDown 19 = .ok (.lload 5, 2) := by decide +kernel
theorem dX5_rootDown_21 : decode cX5_rootDown 21 = .ok (.lload 5, 2) := by decide +kernel
theorem dX5_rootDown_23 : decode cX5_rootDown 23 = .ok (.lmul, 1) := by decide +kernel
theorem dX5_rootDown_24 : decode cX5_rootDown 24 = .ok (.lload_n 0, 1) := by decide +kernel
theorem dX5_rootDown_25 : decode cX5_rootDown 25 = .ok (.lcmp, 1) := by decide +kernel
theorem dX5_rootDown_26 : decode cX5_rootDown 26 = .ok (.ifCond .gt 6, 3) := by decide +kernel
theorem dX5_rootDown_29 : decode cX5_rootDown 29 = .ok (.lload 5, 2) := by decide +kernel
theorem dX5_rootDown_31 : decode cX5_rootDown 31 = .ok (.lstore_n 2, 1) := by decide +kernel
theorem dX5_rootDown_32 : decode cX5_rootDown 32 = .ok (.iinc 4 (-1), 3) := by decide +kernel
theorem dX5_rootDown_35 : decode cX5_rootDown 35 = .ok (.goto (-29), 3) := by decide +kernel
theorem dX5_rootDown_38 : decode cX5_rootDown 38 = .ok (.lload_n 2, 1) := by decide +kernel
theorem dX5_rootDown_39 : decode cX5_rootDown 39 = .ok (.lreturn, 1) := by decide +kernel
end
section
/-! the state: what fields and rows hold, by the number of the cell and of the place; ints (booleans, bytes) and longs -/
abbrev zSt : Type := (Nat → Nat → Int32) × (Nat → Nat → Int64)
def gi (σ : zSt) (c k : Nat) : Int32 := σ.1 c k
def gl (σ : zSt) (c k : Nat) : Int64 := σ.2 c k
def si (σ : zSt) (c k : Nat) (v : Int32) : zSt := (fun c' k' => if c' = c ∧ k' = k then v else σ.1 c' k', σ.2)
def sl (σ : zSt) (c k : Nat) (v : Int64) : zSt := (σ.1, fun c' k' => if c' = c ∧ k' = k then v else σ.2 c' k')
def nm {α β : Type} (e : α) (f : α → β) : β := f e
noncomputable def zg {α : Type} (c : Prop) (x : Option α) : Option α := @ite _ c (Classical.propDecidable c) x none
theorem zg_pos {α : Type} {c : Prop} {x : Option α} (h : c) : zg c x = x := if_pos h
theorem zg_out {α : Type} {c : Prop} {x : Option α} {v : α} (h : zg c x = some v) : c ∧ x = some v := by
  by_cases q : c
  · exact ⟨q, by rw [zg_pos q] at h; exact h⟩
  · rw [zg, if_neg q] at h; cases h
def bd1 {α γ : Type} (x : Option α) (f : α → Option γ) : Option γ := match x with
  | some a => f a
  | none => none
def bd2 {α β γ : Type} (x : Option (α × β)) (f : α → β → Option γ) : Option γ := match x with
  | some (a, b) => f a b
  | none => none
theorem bd1_out {α γ : Type} {x : Option α} {f : α → Option γ} {v : γ} (h : bd1 x f = some v) : ∃ a, x = some a ∧ f a = some v := by
  cases x with
  | none => cases h
  | some a => exact ⟨a, rfl, h⟩
theorem bd2_out {α β γ : Type} {x : Option (α × β)} {f : α → β → Option γ} {v : γ} (h : bd2 x f = some v) : ∃ a b, x = some (a, b) ∧ f a b = some v := by
  cases x with
  | none => cases h
  | some q => exact ⟨q.1, q.2, rfl, h⟩
def jshrL (x : Int64) (y : Int32) : Int64 := x >>> (y.toInt64 &&& 63)
def jshlL (x : Int64) (y : Int32) : Int64 := x <<< (y.toInt64 &&& 63)
def jushrI (x y : Int32) : Int32 := (x.toUInt32 >>> (y.toUInt32 &&& Int32.toUInt32 31)).toInt32
def jshlI (x y : Int32) : Int32 := x <<< (y &&& 31)
def jshrI (x y : Int32) : Int32 := x >>> (y &&& 31)
def jremI (x y : Int32) : Int32 := x - x / y * y
def jremL (x y : Int64) : Int64 := x - x / y * y
def jmaxL (x y : Int64) : Int64 := if x < y then y else x
def jminL (x y : Int64) : Int64 := if y < x then y else x
/-! the world -/
abbrev zGt : Type := va_G × (Nat → Nat) × (Nat → Nat) × (Nat → Nat) × (Nat → ClassId)
abbrev gA (G : zGt) : Nat → Nat := G.2.1
abbrev gC (G : zGt) : Nat → ClassId := G.2.2.2.2
abbrev gTys (G : zGt) : List (ClassId × FieldType) := [(gC G 0, .int), (gC G 1, .long), (gC G 2, .byte), (gC G 3, .boolean), (gC G 4, .object "ShutBench$Curve")]
def zSc (G : zGt) (k : Nat) (j : Nat) (f : Nat → Int32) (g : Nat → Int64) : va_E :=
  if j = 0 then .inr (0, [.ref (gA G (21+4*k+1)), .ref (gA G (21+4*k+2)), .ref (gA G (21+4*k+3)), .int (f 3), .int (f 4), .int (f 5), .int (f 6)]) else if j = 1 then .inl (gC G 0, 60, .inl f) else if j = 2 then .inl (gC G 1, 60, .inr (.inl g)) else .inl (gC G 0, 60, .inl f)
def zSx (G : zGt) (c : Nat) (f : Nat → Int32) (g : Nat → Int64) : va_E :=
  if c = 0 then .inr (6, [.ref (gA G (1)), .ref (gA G (3)), .ref (gA G (4)), .ref (gA G (5)), .long (g 4), .long (g 5), .int (f 6), .int (f 7)]) else
  if c = 1 then .inr (3, [.ref (gA G (2)), .ref (gA G (21+4*9)), .int (f 2), .int (f 3), .int (f 4), .int (f 5)]) else
  if c = 2 then .inr (4, [.ref (gA G (6)), .int (f 1)]) else
  if c = 3 then .inr (1, [.ref (gA G (7)), .ref (gA G (21+4*8)), .ref (gA G (8)), .ref (gA G (9)), .ref (gA G (10)), .ref (gA G (11)), .ref (gA G (12)), .long (g 7), .int (f 8), .long (g 9)]) else
  if c = 4 then .inr (2, [.ref (gA G (13)), .ref (gA G (14)), .ref (gA G (15)), .ref (gA G (16)), .int (f 4), .long (g 5), .long (g 6)]) else
  if c = 5 then .inr (5, [.ref (gA G (17)), .ref (gA G (18)), .ref (gA G (19)), .ref (gA G (20)), .int (f 4), .int (f 5), .int (f 6), .int (f 7)]) else
  if c = 6 then .inl (gC G 0, 200, .inl f) else
  if c = 7 then .inl (gC G 4, 8, .inr (.inr (.inr (.inr (fun j => some (gA G (21 + 4 * j))))))) else
  if c = 8 then .inl (gC G 0, 60, .inl f) else
  if c = 9 then .inl (gC G 1, 60, .inr (.inl g)) else
  if c = 10 then .inl (gC G 1, 60, .inr (.inl g)) else
  if c = 11 then .inl (gC G 1, 8, .inr (.inl g)) else
  if c = 12 then .inl (gC G 1, 8, .inr (.inl g)) else
  if c = 13 then .inl (gC G 0, 201, .inl f) else
  if c = 14 then .inl (gC G 0, 201, .inl f) else
  if c = 15 then .inl (gC G 1, 201, .inr (.inl g)) else
  if c = 16 then .inl (gC G 1, 201, .inr (.inl g)) else
  if c = 17 then .inl (gC G 0, 64, .inl f) else
  if c = 18 then .inl (gC G 0, 60, .inl f) else
  if c = 19 then .inl (gC G 0, 60, .inl f) else
  .inl (gC G 0, 60, .inl f)
def zSm (G : zGt) (c : Nat) (f : Nat → Int32) (g : Nat → Int64) : va_E :=
  if c = 61 then .inr (7, [.int (f 0), .ref (gA G (62)), .int (f 2), .int (f 3), .ref (gA G (63)), .ref (gA G (64)), .ref (gA G (65)), .ref (gA G (66)), .ref (gA G (67)), .ref (gA G (68)), .int (f 10), .int (f 11), .int (f 12), .int (f 13), .int (f 14), .int (f 15), .ref (gA G (69)), .ref (gA G (70)), .ref (gA G (71)), .long (g 19), .long (g 20), .int (f 21), .int (f 22), .ref (gA G (72)), .ref (gA G (73)), .ref (gA G (74)), .ref (gA G (75)), .ref (gA G (76)), .ref (gA G (77)), .long (g 29), .long (g 30), .long (g 31), .long (g 32), .int (f 33), .ref (gA G (78)), .ref (gA G (79)), .ref (gA G (80)), .ref (gA G (81)), .int (f 38), .int (f 39), .int (f 40), .ref (gA G (82)), .ref (gA G (83)), .ref (gA G (84))]) else
  if c = 62 then .inl (gC G 2, 200, .inl f) else
  if c = 63 then .inl (gC G 0, 8, .inl f) else
  if c = 64 then .inl (gC G 0, 480, .inl f) else
  if c = 65 then .inl (gC G 0, 480, .inl f) else
  if c = 66 then .inl (gC G 0, 480, .inl f) else
  if c = 67 then .inl (gC G 1, 480, .inr (.inl g)) else
  if c = 68 then .inl (gC G 1, 480, .inr (.inl g)) else
  if c = 69 then .inl (gC G 0, 8, .inl f) else
  if c = 70 then .inl (gC G 0, 8, .inl f) else
  if c = 71 then .inl (gC G 0, 480, .inl f) else
  if c = 72 then .inl (gC G 1, 480, .inr (.inl g)) else
  if c = 73 then .inl (gC G 1, 480, .inr (.inl g)) else
  if c = 74 then .inl (gC G 1, 480, .inr (.inl g)) else
  if c = 75 then .inl (gC G 1, 480, .inr (.inl g)) else
  if c = 76 then .inl (gC G 3, 480, .inl f) else
  if c = 77 then .inl (gC G 3, 480, .inl f) else
  if c = 78 then .inl (gC G 1, 260, .inr (.inl g)) else
  if c = 79 then .inl (gC G 1, 260, .inr (.inl g)) else
  if c = 80 then .inl (gC G 1, 260, .inr (.inl g)) else
  if c = 81 then .inl (gC G 1, 260, .inr (.inl g)) else
  if c = 82 then .inl (gC G 1, 130, .inr (.inl g)) else
  if c = 83 then .inl (gC G 1, 130, .inr (.inl g)) else
  .inl (gC G 0, 130, .inl f)
def zS (G : zGt) (c : Nat) (f : Nat → Int32) (g : Nat → Int64) : va_E := if c < 21 then zSx G c f g else if c < 61 then zSc G ((c - 21) / 4) ((c - 21) % 4) f g else zSm G c f g
theorem zS_c0 (G : zGt) {k : Nat} (hk : k < 10) (f : Nat → Int32) (g : Nat → Int64) : zS G (21 + 4 * k) f g = zSc G k 0 f g := by
  rw [zS, if_neg (by omega), if_pos (by omega), show (21 + 4 * k - 21) / 4 = k by omega, show (21 + 4 * k - 21) % 4 = 0 by omega]
theorem zS_cj (G : zGt) {k j : Nat} (hk : k < 10) (hj : j < 4) (f : Nat → Int32) (g : Nat → Int64) : zS G (21 + 4 * k + j) f g = zSc G k j f g := by
  rw [zS, if_neg (by omega), if_pos (by omega), show (21 + 4 * k + j - 21) / 4 = k by omega, show (21 + 4 * k + j - 21) % 4 = j by omega]
theorem zS_0 (G : zGt) (f : Nat → Int32) (g : Nat → Int64) : zS G 0 f g = .inr (6, [.ref (gA G (1)), .ref (gA G (3)), .ref (gA G (4)), .ref (gA G (5)), .long (g 4), .long (g 5), .int (f 6), .int (f 7)]) := rfl
theorem zS_1 (G : zGt) (f : Nat → Int32) (g : Nat → Int64) : zS G 1 f g = .inr (3, [.ref (gA G (2)), .ref (gA G (21+4*9)), .int (f 2), .int (f 3), .int (f 4), .int (f 5)]) := rfl
theorem zS_2 (G : zGt) (f : Nat → Int32) (g : Nat → Int64) : zS G 2 f g = .inr (4, [.ref (gA G (6)), .int (f 1)]) := rfl
theorem zS_3 (G : zGt) (f : Nat → Int32) (g : Nat → Int64) : zS G 3 f g = .inr (1, [.ref (gA G (7)), .ref (gA G (21+4*8)), .ref (gA G (8)), .ref (gA G (9)), .ref (gA G (10)), .ref (gA G (11)), .ref (gA G (12)), .long (g 7), .int (f 8), .long (g 9)]) := rfl
theorem zS_4 (G : zGt) (f : Nat → Int32) (g : Nat → Int64) : zS G 4 f g = .inr (2, [.ref (gA G (13)), .ref (gA G (14)), .ref (gA G (15)), .ref (gA G (16)), .int (f 4), .long (g 5), .long (g 6)]) := rfl
theorem zS_5 (G : zGt) (f : Nat → Int32) (g : Nat → Int64) : zS G 5 f g = .inr (5, [.ref (gA G (17)), .ref (gA G (18)), .ref (gA G (19)), .ref (gA G (20)), .int (f 4), .int (f 5), .int (f 6), .int (f 7)]) := rfl
theorem zS_6 (G : zGt) (f : Nat → Int32) (g : Nat → Int64) : zS G 6 f g = .inl (gC G 0, 200, .inl f) := rfl
theorem zS_7 (G : zGt) (f : Nat → Int32) (g : Nat → Int64) : zS G 7 f g = .inl (gC G 4, 8, .inr (.inr (.inr (.inr (fun j => some (gA G (21 + 4 * j))))))) := rfl
theorem zS_8 (G : zGt) (f : Nat → Int32) (g : Nat → Int64) : zS G 8 f g = .inl (gC G 0, 60, .inl f) := rfl
theorem zS_9 (G : zGt) (f : Nat → Int32) (g : Nat → Int64) : zS G 9 f g = .inl (gC G 1, 60, .inr (.inl g)) := rfl
theorem zS_10 (G : zGt) (f : Nat → Int32) (g : Nat → Int64) : zS G 10 f g = .inl (gC G 1, 60, .inr (.inl g)) := rfl
theorem zS_11 (G : zGt) (f : Nat → Int32) (g : Nat → Int64) : zS G 11 f g = .inl (gC G 1, 8, .inr (.inl g)) := rfl
theorem zS_12 (G : zGt) (f : Nat → Int32) (g : Nat → Int64) : zS G 12 f g = .inl (gC G 1, 8, .inr (.inl g)) := rfl
theorem zS_13 (G : zGt) (f : Nat → Int32) (g : Nat → Int64) : zS G 13 f g = .inl (gC G 0, 201, .inl f) := rfl
theorem zS_14 (G : zGt) (f : Nat → Int32) (g : Nat → Int64) : zS G 14 f g = .inl (gC G 0, 201, .inl f) := rfl
theorem zS_15 (G : zGt) (f : Nat → Int32) (g : Nat → Int64) : zS G 15 f g = .inl (gC G 1, 201, .inr (.inl g)) := rfl
theorem zS_16 (G : zGt) (f : Nat → Int32) (g : Nat → Int64) : zS G 16 f g = .inl (gC G 1, 201, .inr (.inl g)) := rfl
theorem zS_17 (G : zGt) (f : Nat → Int32) (g : Nat → Int64) : zS G 17 f g = .inl (gC G 0, 64, .inl f) := rfl
theorem zS_18 (G : zGt) (f : Nat → Int32) (g : Nat → Int64) : zS G 18 f g = .inl (gC G 0, 60, .inl f) := rfl
theorem zS_19 (G : zGt) (f : Nat → Int32) (g : Nat → Int64) : zS G 19 f g = .inl (gC G 0, 60, .inl f) := rfl
theorem zS_20 (G : zGt) (f : Nat → Int32) (g : Nat → Int64) : zS G 20 f g = .inl (gC G 0, 60, .inl f) := rfl
theorem zS_61 (G : zGt) (f : Nat → Int32) (g : Nat → Int64) : zS G 61 f g = .inr (7, [.int (f 0), .ref (gA G (62)), .int (f 2), .int (f 3), .ref (gA G (63)), .ref (gA G (64)), .ref (gA G (65)), .ref (gA G (66)), .ref (gA G (67)), .ref (gA G (68)), .int (f 10), .int (f 11), .int (f 12), .int (f 13), .int (f 14), .int (f 15), .ref (gA G (69)), .ref (gA G (70)), .ref (gA G (71)), .long (g 19), .long (g 20), .int (f 21), .int (f 22), .ref (gA G (72)), .ref (gA G (73)), .ref (gA G (74)), .ref (gA G (75)), .ref (gA G (76)), .ref (gA G (77)), .long (g 29), .long (g 30), .long (g 31), .long (g 32), .int (f 33), .ref (gA G (78)), .ref (gA G (79)), .ref (gA G (80)), .ref (gA G (81)), .int (f 38), .int (f 39), .int (f 40), .ref (gA G (82)), .ref (gA G (83)), .ref (gA G (84))]) := rfl
theorem zS_62 (G : zGt) (f : Nat → Int32) (g : Nat → Int64) : zS G 62 f g = .inl (gC G 2, 200, .inl f) := rfl
theorem zS_63 (G : zGt) (f : Nat → Int32) (g : Nat → Int64) : zS G 63 f g = .inl (gC G 0, 8, .inl f) := rfl
theorem zS_64 (G : zGt) (f : Nat → Int32) (g : Nat → Int64) : zS G 64 f g = .inl (gC G 0, 480, .inl f) := rfl
theorem zS_65 (G : zGt) (f : Nat → Int32) (g : Nat → Int64) : zS G 65 f g = .inl (gC G 0, 480, .inl f) := rfl
theorem zS_66 (G : zGt) (f : Nat → Int32) (g : Nat → Int64) : zS G 66 f g = .inl (gC G 0, 480, .inl f) := rfl
theorem zS_67 (G : zGt) (f : Nat → Int32) (g : Nat → Int64) : zS G 67 f g = .inl (gC G 1, 480, .inr (.inl g)) := rfl
theorem zS_68 (G : zGt) (f : Nat → Int32) (g : Nat → Int64) : zS G 68 f g = .inl (gC G 1, 480, .inr (.inl g)) := rfl
theorem zS_69 (G : zGt) (f : Nat → Int32) (g : Nat → Int64) : zS G 69 f g = .inl (gC G 0, 8, .inl f) := rfl
theorem zS_70 (G : zGt) (f : Nat → Int32) (g : Nat → Int64) : zS G 70 f g = .inl (gC G 0, 8, .inl f) := rfl
theorem zS_71 (G : zGt) (f : Nat → Int32) (g : Nat → Int64) : zS G 71 f g = .inl (gC G 0, 480, .inl f) := rfl
theorem zS_72 (G : zGt) (f : Nat → Int32) (g : Nat → Int64) : zS G 72 f g = .inl (gC G 1, 480, .inr (.inl g)) := rfl
theorem zS_73 (G : zGt) (f : Nat → Int32) (g : Nat → Int64) : zS G 73 f g = .inl (gC G 1, 480, .inr (.inl g)) := rfl
theorem zS_74 (G : zGt) (f : Nat → Int32) (g : Nat → Int64) : zS G 74 f g = .inl (gC G 1, 480, .inr (.inl g)) := rfl
theorem zS_75 (G : zGt) (f : Nat → Int32) (g : Nat → Int64) : zS G 75 f g = .inl (gC G 1, 480, .inr (.inl g)) := rfl
theorem zS_76 (G : zGt) (f : Nat → Int32) (g : Nat → Int64) : zS G 76 f g = .inl (gC G 3, 480, .inl f) := rfl
theorem zS_77 (G : zGt) (f : Nat → Int32) (g : Nat → Int64) : zS G 77 f g = .inl (gC G 3, 480, .inl f) := rfl
theorem zS_78 (G : zGt) (f : Nat → Int32) (g : Nat → Int64) : zS G 78 f g = .inl (gC G 1, 260, .inr (.inl g)) := rfl
theorem zS_79 (G : zGt) (f : Nat → Int32) (g : Nat → Int64) : zS G 79 f g = .inl (gC G 1, 260, .inr (.inl g)) := rfl
theorem zS_80 (G : zGt) (f : Nat → Int32) (g : Nat → Int64) : zS G 80 f g = .inl (gC G 1, 260, .inr (.inl g)) := rfl
theorem zS_81 (G : zGt) (f : Nat → Int32) (g : Nat → Int64) : zS G 81 f g = .inl (gC G 1, 260, .inr (.inl g)) := rfl
theorem zS_82 (G : zGt) (f : Nat → Int32) (g : Nat → Int64) : zS G 82 f g = .inl (gC G 1, 130, .inr (.inl g)) := rfl
theorem zS_83 (G : zGt) (f : Nat → Int32) (g : Nat → Int64) : zS G 83 f g = .inl (gC G 1, 130, .inr (.inl g)) := rfl
theorem zS_84 (G : zGt) (f : Nat → Int32) (g : Nat → Int64) : zS G 84 f g = .inl (gC G 0, 130, .inl f) := rfl
def zW (G : zGt) (τ : zSt) : va_W := (List.range 85).map (fun c => (gA G c, zS G c (τ.1 c) (τ.2 c)))
theorem zW_at {G : zGt} {τ : zSt} {c : Nat} (h : c < 85) : (zW G τ)[c]? = some (gA G c, zS G c (τ.1 c) (τ.2 c)) := by
  rw [zW, List.getElem?_map, List.getElem?_range h]; rfl
theorem zW_len (G : zGt) (τ : zSt) : (zW G τ).length = 85 := by rw [zW, List.length_map, List.length_range]
theorem zW_set {G : zGt} {τ τ' : zSt} {c : Nat} {e : va_E} (hc : c < 85) (he : zS G c (τ'.1 c) (τ'.2 c) = e) (hn : ∀ j, j ≠ c → τ'.1 j = τ.1 j ∧ τ'.2 j = τ.2 j) : (zW G τ).set c (gA G c, e) = zW G τ' := by
  apply List.ext_getElem?
  intro j
  by_cases hj : j < 85
  · rw [zW_at hj]
    by_cases h : j = c
    · subst h
      rw [List.getElem?_set_self (by rw [zW_len]; exact hj), he]
    · rw [List.getElem?_set_ne (Ne.symm h), zW_at hj, (hn j h).1, (hn j h).2]
  · rw [List.getElem?_eq_none (by rw [List.length_set, zW_len]; omega), List.getElem?_eq_none (by rw [zW_len]; omega)]
def zInj (G : zGt) : Prop := ∀ i j, i < 85 → j < 85 → gA G i = gA G j → i = j
theorem zW_D {G : zGt} {τ : zSt} {A : Nat → Prop} (hi : zInj G) (hA : ∀ k, k < 85 → A (gA G k)) : va_D A (zW G τ) := by
  have key : ∀ (k : Nat) (q : Nat × va_E), (zW G τ)[k]? = some q → k < 85 ∧ q.1 = gA G k := by
    intro k q h
    have hk : k < 85 := by rw [← zW_len G τ]; exact (List.getElem?_eq_some_iff.mp h).1
    rw [zW_at hk] at h
    cases h
    exact ⟨hk, rfl⟩
  refine ⟨fun i j p q hp hq e => ?_, fun k q h => ?_⟩
  · obtain ⟨h1, h2⟩ := key i p hp
    obtain ⟨h3, h4⟩ := key j q hq
    exact hi i j h1 h3 (by rw [← h2, ← h4]; exact e)
  · obtain ⟨h1, h2⟩ := key k q h
    rw [h2]; exact hA k h1
def zA (G : zGt) : Nat → Prop := fun q => ∃ k, k < 85 ∧ q = gA G k
theorem zA_in {G : zGt} (k : Nat) (h : k < 85) : zA G (gA G k) := ⟨k, h, rfl⟩
def si_n (σ : zSt) (c k : Nat) (v : Int32) : ∀ j, j ≠ c → (si σ c k v).1 j = σ.1 j ∧ (si σ c k v).2 j = σ.2 j := fun j h => ⟨by funext q; simp [si, h], rfl⟩
def sl_n (σ : zSt) (c k : Nat) (v : Int64) : ∀ j, j ≠ c → (sl σ c k v).1 j = σ.1 j ∧ (sl σ c k v).2 j = σ.2 j := fun j h => ⟨rfl, by funext q; simp [sl, h]⟩
theorem si_u (σ : zSt) (c k : Nat) (v : Int32) : (si σ c k v).1 c = upd (σ.1 c) k v := by funext q; simp [si, upd]
theorem sl_u (σ : zSt) (c k : Nat) (v : Int64) : (sl σ c k v).2 c = vp_updL (σ.2 c) k v := by funext q; simp [sl, vp_updL]
def zLen : List Nat := [1, 4, 3, 3, 3, 3, 4, 6, 7]
def zByt : List (List Int32) := [[120], [114, 111, 111, 116], [101, 120, 112], [108, 111, 103], [115, 105, 110], [99, 111, 115], [115, 105, 122, 101], [108, 101, 115, 115, 101, 114], [103, 114, 101, 97, 116, 101, 114]]
def zStrs : List (String × Nat × String × Nat) := [(RX3, 108, "x", 0), (RX3, 117, "root", 1), (RX3, 119, "exp", 2), (RX3, 121, "log", 3), (RX3, 123, "sin", 4), (RX3, 125, "cos", 5), (RX3, 127, "size", 6), (RX3, 128, "lesser", 7), (RX3, 130, "greater", 8), (RX9, 177, "x", 0), (RX9, 152, "root", 1), (RX9, 154, "exp", 2), (RX9, 156, "log", 3), (RX9, 158, "sin", 4), (RX9, 160, "cos", 5), (RX9, 162, "size", 6), (RX9, 164, "lesser", 7), (RX9, 166, "greater", 8)]
end
section
/-! what a method's start knows of the machine, beside the world -/
def zNest : List Cond := [.methodLinkNest RX2 48 yX8_middleOf "ShutBench", .methodLinkNest RX7 43 yX8_middleOf "ShutBench"]
theorem zNest_warm {s U : State} (hW : s.WarmedH U.vm) (h : ∀ w ∈ zNest, va_Nw w s) : ∀ w ∈ zNest, va_Nw w U :=
  List.forall_mem_cons.mpr ⟨va_Nw.warmM hW (h _ List.mem_cons_self), List.forall_mem_cons.mpr ⟨va_Nw.warmM hW (h _ (List.mem_cons_of_mem _ List.mem_cons_self)), fun _ q => absurd q List.not_mem_nil⟩⟩
theorem zNest_same {s U : State} (hU : s.vm = U.vm) (h : ∀ w ∈ zNest, va_Nw w s) : ∀ w ∈ zNest, va_Nw w U :=
  List.forall_mem_cons.mpr ⟨va_Nw.same rfl hU (h _ List.mem_cons_self), List.forall_mem_cons.mpr ⟨va_Nw.same rfl hU (h _ (List.mem_cons_of_mem _ List.mem_cons_self)), fun _ q => absurd q List.not_mem_nil⟩⟩
def zEnv (G : zGt) (A : Nat → Prop) (U : State) : Prop := va_K G.1 vwCl (gTys G) U ∧ zInj G ∧ vk_S 9 zLen zByt G.2.2.1 G.2.2.2.1 A U U.heap ∧ (∀ r ∈ zStrs, vk_R r.1 r.2.1 r.2.2.1 (G.2.2.1 r.2.2.2) U) ∧ va_Z "java/lang/String" "COMPACT_STRINGS" "Z" (.int 1) A U U.heap ∧ ∀ w ∈ zNest, va_Nw w U
theorem zEnv.call {G : zGt} {A B : Nat → Prop} {s U : State} {H : Heap} {locs : List Loc} (h : zEnv G A s) (hS : va_S A s.heap H locs) (hB : ∀ q, B q → A q) (hU : U.heap = H) (hW : s.WarmedH U.vm) : zEnv G B U := by
  obtain ⟨h1, h2, h3, h4, h5, h6⟩ := h
  subst hU
  exact ⟨va_K.moved hW.alike h1, h2, ((h3.kept hS.2.1).narrow hB).moved hW.alike, fun r hr => (h4 r hr).warm hW, ((h5.kept hS.2.1).narrow hB).moved hW.alike, zNest_warm hW h6⟩
theorem zEnv.blind {G : zGt} {A : Nat → Prop} {U : State} {g : JFrame} {mk : MethodId} {a : Array Value} (h : zEnv G A U) : zEnv G A (U.calling g mk a) := by
  obtain ⟨h1, h2, h3, h4, h5, h6⟩ := h
  exact ⟨va_K.moved (u := U) (U := U.calling g mk a) (Vm.Alike.refl U.vm) h1, h2, vk_S.moved (u := U) (U := U.calling g mk a) (Vm.Alike.refl U.vm) h3, fun r hr => vk_R.same (u := U) (U := U.calling g mk a) rfl (h4 r hr), va_Z.moved (u := U) (U := U.calling g mk a) (Vm.Alike.refl U.vm) h5, zNest_same (s := U) (U := U.calling g mk a) rfl h6⟩
/-- the states of one side (cells lo to hi - 1) put into the world of both -/
def zM (mk : zSt → zSt) (lo hi : Nat) : Prop := hi ≤ 85 ∧ ∀ (σ : zSt) (c : Nat), lo ≤ c → c < hi → (mk σ).1 c = σ.1 c ∧ (mk σ).2 c = σ.2 c ∧ (∀ k v, mk (si σ c k v) = si (mk σ) c k v) ∧ ∀ k v, mk (sl σ c k v) = sl (mk σ) c k v
abbrev zX : Type := Program × Launch × Env × Room × State × MethodId × Array Value × List Frame × Method × Code × (State → Prop) × Nat × zGt × (zSt → zSt) × (Nat → Prop) × Nat × Nat
abbrev zL (T : zX) : Launch := T.2.1
abbrev zGr (T : zX) : zGt := T.2.2.2.2.2.2.2.2.2.2.2.2.1
abbrev zMk (T : zX) : zSt → zSt := T.2.2.2.2.2.2.2.2.2.2.2.2.2.1
abbrev zAd (T : zX) (c : Nat) : Nat := gA (zGr T) c
abbrev zSk (T : zX) (i : Nat) : Nat := (zGr T).2.2.1 i
abbrev zSv (T : zX) (i : Nat) : Nat := (zGr T).2.2.2.1 i
abbrev zNL (T : zX) : Nat := T.2.2.2.2.2.2.2.2.2.2.2.1
def zOk (T : zX) (cc : ByteArray) (own : String) (fr lo cl ch : Nat) : Prop := match T with
  | (p, _, _, R, s, m, args, _, _, c, _, nL, G, mq, A, cells, slots) => p.tables.exec = Jvm.exec ∧ c.code = cc ∧ c.maxLocals = nL ∧ s.vm.findClass own = some m.cls ∧ (∀ w ∈ zT, w.before args s = true) ∧ zEnv G A s ∧ (∀ k, k < 85 → A (gA G k)) ∧ (fr ≤ R.frames ∧ lo ≤ R.locals ∧ cells ≤ R.cells ∧ slots ≤ R.slots) ∧ zM mq cl ch
def Z (T : zX) (σ : zSt) (pc : Nat) (lv : List (Nat × Value)) (st : List Value) : Prop := match T with
  | (p, l, e, R, s, m, args, below, meth, c, Q, nL, G, mq, A, cells, slots) => ∀ (H : Heap) (locs : List Loc) (ls : Array Slot), va_P G.1 vwCl (zW G (mq σ)) H → va_S A s.heap H locs → lv_has ls nL lv → W p l e R s m args below meth c H locs cells slots Q (F0 m pc ls st)
/-- the end of a method: its answer, and the state behind it -/
def zQ (G : zGt) (mk : zSt → zSt) (r : Option Value) (σ' : zSt) : Array Value → State → Outcome → State → Prop := fun _ st o t => o = .returned r ∧ va_P G.1 vwCl (zW G (mk σ')) t.heap ∧ va_F (zA G) st t
def zRes (T : zX) (rt : Option FieldType) (r : Option Value) (σ' : zSt) : Prop := match T with
  | (_, _, _, _, s, _, args, below, meth, _, Q, _, G, mq, A, cells, slots) => A = zA G ∧ Q = MQ below (zQ G mq r σ') args s cells slots (zA G) ∧ meth.sig.returnType = rt ∧ meth.locks = false
/-- a method's contract -/
def zMet (l : Launch) (G : zGt) (mk : zSt → zSt) (y : MethodName) (cc : ByteArray) (maxL : Nat) (rt : Option FieldType) (fr lo : Nat) (av : List Value) (σ : zSt) (r : Option Value) (σ' : zSt) : Prop :=
  Met l y (.code y cc maxL rt :: zT) { frames := fr, cells := 0, slots := 0, locals := lo } (va_Pc av (fun U => va_P G.1 vwCl (zW G (mk σ)) U.heap ∧ zEnv G (zA G) U)) (zQ G mk r σ') 0 0 (zA G)
theorem zMet.ofF {y : MethodName} {ws ws' : List Cond} {rm : Room} {l : Launch} {Pc : Array Value → State → Prop} {Qc : Array Value → State → Outcome → State → Prop} {mc ms : Nat} {free : Addr → Prop} {cc : ByteArray} {maxL : Nat} {ret : Option FieldType}
    (hy : plainFor y = true) (hw : ws = Cond.code y cc maxL ret :: ws')
    (body : ∀ p e s m args below meth c s₁, BodyLoose p l y (headSpec ws rm) cc maxL ret e s m args below meth c s₁ → c.maxLocals = maxL → Pc args s →
      W p l e (headSpec ws rm).room s m args below meth c s.heap [] 0 0 (MQ below Qc args s mc ms free) (entryFrame m args maxL)) : Met l y ws rm Pc Qc mc ms free := by
  refine MetFree.of_bodySF (code := cc) (maxLocals := maxL) (ret := ret) hy ?_ ?_
  · intro args s m h hn
    obtain ⟨meth, c, h1, h2, h3, h4, h5, h6, -, -⟩ := Cond.code_spec hn (atoms_spec (ws := ws) h _ (by rw [hw]; exact List.mem_cons_self))
    exact ⟨meth, c, h1, h2, h3, h4, h5, h6⟩
  · intro p e s m args below meth c s₁ B hml hP _
    have hh0 : s₁.heap = s.heap := by rw [B.state]; rfl
    obtain ⟨t, a1, o, b1, b2, b3⟩ := body p e s m args below meth c s₁ B hml hP s₁ hh0 (Stand.of_body B)
    exact ⟨t, o, a1, b1, b2, ⟨b3.1, b3.2⟩⟩
theorem zMet.of {l : Launch} {G : zGt} {mk : zSt → zSt} {y : MethodName} {cc : ByteArray} {maxL : Nat} {rt : Option FieldType} {fr lo cl ch : Nat} {av : List Value} {σ : zSt} {r : Option Value} {σ' : zSt} (hy : plainFor y = true) (hm : zM mk cl ch) (hw : (lg_sl av).length ≤ maxL)
    (body : ∀ T : zX, zL T = l → zGr T = G → zMk T = mk → zNL T = maxL → zOk T cc y.cls fr lo cl ch → zRes T rt r σ' → Z T σ 0 (lv_args 0 av) []) : zMet l G mk y cc maxL rt fr lo av σ r σ' := by
  refine zMet.ofF (cc := cc) (maxL := maxL) (ret := rt) hy rfl ?_
  intro p e s m args below meth c s₁ B hml hv
  obtain ⟨rfl, hP, hE⟩ := hv
  have hts := atoms_spec (ws := .code y cc maxL rt :: zT) B.pre
  have hown : s.vm.findClass y.cls = some m.cls := findClass_of_methodNamed B.named
  have hl := lv_entry av (n := maxL) hw
  rw [lg_entry_eq]
  generalize (lg_sl av ++ List.replicate (maxL - (lg_sl av).length) Slot.unset).toArray = ls at hl ⊢
  exact body (p, l, e, _, s, m, av.toArray, below, meth, c, _, maxL, G, mk, zA G, 0, 0) rfl rfl rfl rfl ⟨B.exec, B.bytes, hml, hown, fun w h => hts w (List.mem_cons_of_mem _ h), hE, fun k hk => zA_in k hk, ⟨Nat.le_refl _, Nat.le_refl _, Nat.le_refl _, Nat.le_refl _⟩, hm⟩ ⟨rfl, rfl, B.returns, B.notSynchronized⟩ s.heap [] ls hP va_S.rf hl
end
section
theorem z_iconst {T : zX} {cc : ByteArray} {own : String} {fr lo cl ch : Nat} (hC : zOk T cc own fr lo cl ch) {σ : zSt} {pc : Nat} {lv : List (Nat × Value)} {st : List Value} {n : Int} (v : Int32) (hv : Int32.ofInt n = v) (d : decode cc pc = .ok (.iconst n, 1)) (kk : Z T σ (pc + 1) lv (.int v :: st)) : Z T σ pc lv (st) := by
  obtain ⟨p, l, e, R, s, m, args, below, meth, cd, Q, nL, G, mk, A, cells, slots⟩ := T
  obtain ⟨hx, hb, hml, hown, hts, hE, hA, hR, hM⟩ := hC
  intro H locs ls hP hS hl
  exact lv_iconst hx hb d hv (kk H locs ls hP hS hl)
theorem z_bipush {T : zX} {cc : ByteArray} {own : String} {fr lo cl ch : Nat} (hC : zOk T cc own fr lo cl ch) {σ : zSt} {pc : Nat} {lv : List (Nat × Value)} {st : List Value} {n : Int} (v : Int32) (hv : (Int8.ofInt n).toInt32 = v) (d : decode cc pc = .ok (.bipush n, 2)) (kk : Z T σ (pc + 2) lv (.int v :: st)) : Z T σ pc lv (st) := by
  obtain ⟨p, l, e, R, s, m, args, below, meth, cd, Q, nL, G, mk, A, cells, slots⟩ := T
  obtain ⟨hx, hb, hml, hown, hts, hE, hA, hR, hM⟩ := hC
  intro H locs ls hP hS hl
  exact lv_bipush hx hb d hv (kk H locs ls hP hS hl)
theorem z_sipush {T : zX} {cc : ByteArray} {own : String} {fr lo cl ch : Nat} (hC : zOk T cc own fr lo cl ch) {σ : zSt} {pc : Nat} {lv : List (Nat × Value)} {st : List Value} {n : Int} (v : Int32) (hv : (Int16.ofInt n).toInt32 = v) (d : decode cc pc = .ok (.sipush n, 3)) (kk : Z T σ (pc + 3) lv (.int v :: st)) : Z T σ pc lv (st) := by
  obtain ⟨p, l, e, R, s, m, args, below, meth, cd, Q, nL, G, mk, A, cells, slots⟩ := T
  obtain ⟨hx, hb, hml, hown, hts, hE, hA, hR, hM⟩ := hC
  intro H locs ls hP hS hl
  exact lv_sipush hx hb d hv (kk H locs ls hP hS hl)
theorem z_lconst {T : zX} {cc : ByteArray} {own : String} {fr lo cl ch : Nat} (hC : zOk T cc own fr lo cl ch) {σ : zSt} {pc : Nat} {lv : List (Nat × Value)} {st : List Value} {n : Fin 2} (v : Int64) (hv : Int64.ofNat (n : Nat) = v) (d : decode cc pc = .ok (.lconst n, 1)) (kk : Z T σ (pc + 1) lv (.long v :: st)) : Z T σ pc lv (st) := by
  obtain ⟨p, l, e, R, s, m, args, below, meth, cd, Q, nL, G, mk, A, cells, slots⟩ := T
  obtain ⟨hx, hb, hml, hown, hts, hE, hA, hR, hM⟩ := hC
  intro H locs ls hP hS hl
  exact lv_lconst hx hb d hv (kk H locs ls hP hS hl)
theorem z_ldc2 {T : zX} {cc : ByteArray} {own : String} {fr lo cl ch : Nat} (hC : zOk T cc own fr lo cl ch) {σ : zSt} {pc : Nat} {lv : List (Nat × Value)} {st : List Value} {index : Nat} {v : Int64} (hw : Cond.constantLong own index v ∈ zT) (d : decode cc pc = .ok (.ldc2_w index, 3)) (kk : Z T σ (pc + 3) lv (.long v :: st)) : Z T σ pc lv (st) := by
  obtain ⟨p, l, e, R, s, m, args, below, meth, cd, Q, nL, G, mk, A, cells, slots⟩ := T
  obtain ⟨hx, hb, hml, hown, hts, hE, hA, hR, hM⟩ := hC
  intro H locs ls hP hS hl
  exact lv_ldc2 hx hb hown (hts _ hw) d (kk H locs ls hP hS hl)
theorem z_ldcI {T : zX} {cc : ByteArray} {own : String} {fr lo cl ch : Nat} (hC : zOk T cc own fr lo cl ch) {σ : zSt} {pc : Nat} {lv : List (Nat × Value)} {st : List Value} {index : Nat} {v : Int32} (hw : Cond.constant own index v ∈ zT) (d : decode cc pc = .ok (.ldc index, 2)) (kk : Z T σ (pc + 2) lv (.int v :: st)) : Z T σ pc lv (st) := by
  obtain ⟨p, l, e, R, s, m, args, below, meth, cd, Q, nL, G, mk, A, cells, slots⟩ := T
  obtain ⟨hx, hb, hml, hown, hts, hE, hA, hR, hM⟩ := hC
  intro H locs ls hP hS hl
  exact lv_ldc hx hb hown (hts _ hw) d (kk H locs ls hP hS hl)
theorem z_ldcS {T : zX} {cc : ByteArray} {own : String} {fr lo cl ch : Nat} (hC : zOk T cc own fr lo cl ch) {σ : zSt} {pc : Nat} {lv : List (Nat × Value)} {st : List Value} {index i : Nat} {tx : String} (hw : (own, index, tx, i) ∈ zStrs) (d : decode cc pc = .ok (.ldc index, 2)) (kk : Z T σ (pc + 2) lv (.ref (zSk T i) :: st)) : Z T σ pc lv (st) := by
  obtain ⟨p, l, e, R, s, m, args, below, meth, cd, Q, nL, G, mk, A, cells, slots⟩ := T
  obtain ⟨hx, hb, hml, hown, hts, hE, hA, hR, hM⟩ := hC
  intro H locs ls hP hS hl
  exact va_ldcS hx hb hown (hE.2.2.2.1 _ hw) d (kk H locs ls hP hS hl)
theorem z_iload_n {T : zX} {cc : ByteArray} {own : String} {fr lo cl ch : Nat} (hC : zOk T cc own fr lo cl ch) {σ : zSt} {pc : Nat} {lv : List (Nat × Value)} {st : List Value} {n : Fin 4} {i : Nat} {x : Int32} (k : Nat) (hi : (n : Nat) = i) (hk : lv[k]? = some (i, .int x)) (d : decode cc pc = .ok (.iload_n n, 1)) (kk : Z T σ (pc + 1) lv (.int x :: st)) : Z T σ pc lv (st) := by
  obtain ⟨p, l, e, R, s, m, args, below, meth, cd, Q, nL, G, mk, A, cells, slots⟩ := T
  obtain ⟨hx, hb, hml, hown, hts, hE, hA, hR, hM⟩ := hC
  intro H locs ls hP hS hl
  exact lv_iload_n hx hb d hi (lv_at hl k hk) (kk H locs ls hP hS hl)
theorem z_iload {T : zX} {cc : ByteArray} {own : String} {fr lo cl ch : Nat} (hC : zOk T cc own fr lo cl ch) {σ : zSt} {pc : Nat} {lv : List (Nat × Value)} {st : List Value} {i : Nat} {x : Int32} (k : Nat) (hk : lv[k]? = some (i, .int x)) (d : decode cc pc = .ok (.iload i, 2)) (kk : Z T σ (pc + 2) lv (.int x :: st)) : Z T σ pc lv (st) := by
  obtain ⟨p, l, e, R, s, m, args, below, meth, cd, Q, nL, G, mk, A, cells, slots⟩ := T
  obtain ⟨hx, hb, hml, hown, hts, hE, hA, hR, hM⟩ := hC
  intro H locs ls hP hS hl
  exact lv_iload hx hb d (lv_at hl k hk) (kk H locs ls hP hS hl)
theorem z_istore_n {T : zX} {cc : ByteArray} {own : String} {fr lo cl ch : Nat} (hC : zOk T cc own fr lo cl ch) {σ : zSt} {pc : Nat} {lv : List (Nat × Value)} {st : List Value} {n : Fin 4} {i : Nat} {x : Int32} (lv2 : List (Nat × Value)) (hi : (n : Nat) = i) (hn : i < zNL T) (hv : (i, .int x) :: lv.filter (fun q => !(q.1 == i) && !(q.1 + 1 == i && q.2.category == 2)) = lv2) (d : decode cc pc = .ok (.istore_n n, 1)) (kk : Z T σ (pc + 1) lv2 st) : Z T σ pc lv (.int x :: st) := by
  obtain ⟨p, l, e, R, s, m, args, below, meth, cd, Q, nL, G, mk, A, cells, slots⟩ := T
  obtain ⟨hx, hb, hml, hown, hts, hE, hA, hR, hM⟩ := hC
  intro H locs ls hP hS hl
  exact lv_istore_n hx hb d hi hl hn hv (fun ls2 hl2 => kk H locs ls2 hP hS hl2)
theorem z_istore {T : zX} {cc : ByteArray} {own : String} {fr lo cl ch : Nat} (hC : zOk T cc own fr lo cl ch) {σ : zSt} {pc : Nat} {lv : List (Nat × Value)} {st : List Value} {i : Nat} {x : Int32} (lv2 : List (Nat × Value)) (hn : i < zNL T) (hv : (i, .int x) :: lv.filter (fun q => !(q.1 == i) && !(q.1 + 1 == i && q.2.category == 2)) = lv2) (d : decode cc pc = .ok (.istore i, 2)) (kk : Z T σ (pc + 2) lv2 st) : Z T σ pc lv (.int x :: st) := by
  obtain ⟨p, l, e, R, s, m, args, below, meth, cd, Q, nL, G, mk, A, cells, slots⟩ := T
  obtain ⟨hx, hb, hml, hown, hts, hE, hA, hR, hM⟩ := hC
  intro H locs ls hP hS hl
  exact lv_istore hx hb d hl hn hv (fun ls2 hl2 => kk H locs ls2 hP hS hl2)
theorem z_lload_n {T : zX} {cc : ByteArray} {own : String} {fr lo cl ch : Nat} (hC : zOk T cc own fr lo cl ch) {σ : zSt} {pc : Nat} {lv : List (Nat × Value)} {st : List Value} {n : Fin 4} {i : Nat} {x : Int64} (k : Nat) (hi : (n : Nat) = i) (hk : lv[k]? = some (i, .long x)) (d : decode cc pc = .ok (.lload_n n, 1)) (kk : Z T σ (pc + 1) lv (.long x :: st)) : Z T σ pc lv (st) := by
  obtain ⟨p, l, e, R, s, m, args, below, meth, cd, Q, nL, G, mk, A, cells, slots⟩ := T
  obtain ⟨hx, hb, hml, hown, hts, hE, hA, hR, hM⟩ := hC
  intro H locs ls hP hS hl
  exact lv_lload_n hx hb d hi (lv_at hl k hk) (kk H locs ls hP hS hl)
theorem z_lload {T : zX} {cc : ByteArray} {own : String} {fr lo cl ch : Nat} (hC : zOk T cc own fr lo cl ch) {σ : zSt} {pc : Nat} {lv : List (Nat × Value)} {st : List Value} {i : Nat} {x : Int64} (k : Nat) (hk : lv[k]? = some (i, .long x)) (d : decode cc pc = .ok (.lload i, 2)) (kk : Z T σ (pc + 2) lv (.long x :: st)) : Z T σ pc lv (st) := by
  obtain ⟨p, l, e, R, s, m, args, below, meth, cd, Q, nL, G, mk, A, cells, slots⟩ := T
  obtain ⟨hx, hb, hml, hown, hts, hE, hA, hR, hM⟩ := hC
  intro H locs ls hP hS hl
  exact lv_lload hx hb d (lv_at hl k hk) (kk H locs ls hP hS hl)
theorem z_lstore_n {T : zX} {cc : ByteArray} {own : String} {fr lo cl ch : Nat} (hC : zOk T cc own fr lo cl ch) {σ : zSt} {pc : Nat} {lv : List (Nat × Value)} {st : List Value} {n : Fin 4} {i : Nat} {x : Int64} (lv2 : List (Nat × Value)) (hi : (n : Nat) = i) (hn : i + 1 < zNL T) (hv : (i, .long x) :: lv.filter (fun q => !(q.1 == i) && (!(q.1 == i + 1) && !(q.1 + 1 == i && q.2.category == 2))) = lv2) (d : decode cc pc = .ok (.lstore_n n, 1)) (kk : Z T σ (pc + 1) lv2 st) : Z T σ pc lv (.long x :: st) := by
  obtain ⟨p, l, e, R, s, m, args, below, meth, cd, Q, nL, G, mk, A, cells, slots⟩ := T
  obtain ⟨hx, hb, hml, hown, hts, hE, hA, hR, hM⟩ := hC
  intro H locs ls hP hS hl
  exact lv_lstore_n hx hb d hi hl hn hv (fun ls2 hl2 => kk H locs ls2 hP hS hl2)
theorem z_lstore {T : zX} {cc : ByteArray} {own : String} {fr lo cl ch : Nat} (hC : zOk T cc own fr lo cl ch) {σ : zSt} {pc : Nat} {lv : List (Nat × Value)} {st : List Value} {i : Nat} {x : Int64} (lv2 : List (Nat × Value)) (hn : i + 1 < zNL T) (hv : (i, .long x) :: lv.filter (fun q => !(q.1 == i) && (!(q.1 == i + 1) && !(q.1 + 1 == i && q.2.category == 2))) = lv2) (d : decode cc pc = .ok (.lstore i, 2)) (kk : Z T σ (pc + 2) lv2 st) : Z T σ pc lv (.long x :: st) := by
  obtain ⟨p, l, e, R, s, m, args, below, meth, cd, Q, nL, G, mk, A, cells, slots⟩ := T
  obtain ⟨hx, hb, hml, hown, hts, hE, hA, hR, hM⟩ := hC
  intro H locs ls hP hS hl
  exact lv_lstore hx hb d hl hn hv (fun ls2 hl2 => kk H locs ls2 hP hS hl2)
theorem z_aload_n {T : zX} {cc : ByteArray} {own : String} {fr lo cl ch : Nat} (hC : zOk T cc own fr lo cl ch) {σ : zSt} {pc : Nat} {lv : List (Nat × Value)} {st : List Value} {n : Fin 4} {i : Nat} {x : Nat} (k : Nat) (hi : (n : Nat) = i) (hk : lv[k]? = some (i, .ref x)) (d : decode cc pc = .ok (.aload_n n, 1)) (kk : Z T σ (pc + 1) lv (.ref x :: st)) : Z T σ pc lv (st) := by
  obtain ⟨p, l, e, R, s, m, args, below, meth, cd, Q, nL, G, mk, A, cells, slots⟩ := T
  obtain ⟨hx, hb, hml, hown, hts, hE, hA, hR, hM⟩ := hC
  intro H locs ls hP hS hl
  exact lv_aload_n hx hb d hi (lv_at hl k hk) (kk H locs ls hP hS hl)
theorem z_aload {T : zX} {cc : ByteArray} {own : String} {fr lo cl ch : Nat} (hC : zOk T cc own fr lo cl ch) {σ : zSt} {pc : Nat} {lv : List (Nat × Value)} {st : List Value} {i : Nat} {x : Nat} (k : Nat) (hk : lv[k]? = some (i, .ref x)) (d : decode cc pc = .ok (.aload i, 2)) (kk : Z T σ (pc + 2) lv (.ref x :: st)) : Z T σ pc lv (st) := by
  obtain ⟨p, l, e, R, s, m, args, below, meth, cd, Q, nL, G, mk, A, cells, slots⟩ := T
  obtain ⟨hx, hb, hml, hown, hts, hE, hA, hR, hM⟩ := hC
  intro H locs ls hP hS hl
  exact lv_aload hx hb d (lv_at hl k hk) (kk H locs ls hP hS hl)
theorem z_astore_n {T : zX} {cc : ByteArray} {own : String} {fr lo cl ch : Nat} (hC : zOk T cc own fr lo cl ch) {σ : zSt} {pc : Nat} {lv : List (Nat × Value)} {st : List Value} {n : Fin 4} {i : Nat} {x : Nat} (lv2 : List (Nat × Value)) (hi : (n : Nat) = i) (hn : i < zNL T) (hv : (i, .ref x) :: lv.filter (fun q => !(q.1 == i) && !(q.1 + 1 == i && q.2.category == 2)) = lv2) (d : decode cc pc = .ok (.astore_n n, 1)) (kk : Z T σ (pc + 1) lv2 st) : Z T σ pc lv (.ref x :: st) := by
  obtain ⟨p, l, e, R, s, m, args, below, meth, cd, Q, nL, G, mk, A, cells, slots⟩ := T
  obtain ⟨hx, hb, hml, hown, hts, hE, hA, hR, hM⟩ := hC
  intro H locs ls hP hS hl
  exact lv_astore_n hx hb d hi hl hn hv (fun ls2 hl2 => kk H locs ls2 hP hS hl2)
theorem z_astore {T : zX} {cc : ByteArray} {own : String} {fr lo cl ch : Nat} (hC : zOk T cc own fr lo cl ch) {σ : zSt} {pc : Nat} {lv : List (Nat × Value)} {st : List Value} {i : Nat} {x : Nat} (lv2 : List (Nat × Value)) (hn : i < zNL T) (hv : (i, .ref x) :: lv.filter (fun q => !(q.1 == i) && !(q.1 + 1 == i && q.2.category == 2)) = lv2) (d : decode cc pc = .ok (.astore i, 2)) (kk : Z T σ (pc + 2) lv2 st) : Z T σ pc lv (.ref x :: st) := by
  obtain ⟨p, l, e, R, s, m, args, below, meth, cd, Q, nL, G, mk, A, cells, slots⟩ := T
  obtain ⟨hx, hb, hml, hown, hts, hE, hA, hR, hM⟩ := hC
  intro H locs ls hP hS hl
  exact lv_astore hx hb d hl hn hv (fun ls2 hl2 => kk H locs ls2 hP hS hl2)
theorem z_iinc {T : zX} {cc : ByteArray} {own : String} {fr lo cl ch : Nat} (hC : zOk T cc own fr lo cl ch) {σ : zSt} {pc : Nat} {lv : List (Nat × Value)} {st : List Value} {i : Nat} {n : Int} {x : Int32} (v : Int32) (lv2 : List (Nat × Value)) (k : Nat) (hk : lv[k]? = some (i, .int x)) (hw : x + Int32.ofInt n = v) (hn : i < zNL T) (hv : (i, .int v) :: lv.filter (fun q => !(q.1 == i) && !(q.1 + 1 == i && q.2.category == 2)) = lv2) (d : decode cc pc = .ok (.iinc i n, 3)) (kk : Z T σ (pc + 3) lv2 st) : Z T σ pc lv st := by
  obtain ⟨p, l, e, R, s, m, args, below, meth, cd, Q, nL, G, mk, A, cells, slots⟩ := T
  obtain ⟨hx, hb, hml, hown, hts, hE, hA, hR, hM⟩ := hC
  intro H locs ls hP hS hl
  exact lv_iinc hx hb d hl hk hw hn hv (fun ls2 hl2 => kk H locs ls2 hP hS hl2)
theorem z_sub {T : zX} {σ : zSt} {pc : Nat} {lv : List (Nat × Value)} {st : List Value} (lv2 : List (Nat × Value)) (ks : List Nat) (hl2 : lv_pick lv ks = lv2) (kk : Z T σ pc lv2 st) : Z T σ pc lv st := by
  obtain ⟨p, l, e, R, s, m, args, below, meth, cd, Q, nL, G, mk, A, cells, slots⟩ := T
  intro H locs ls hP hS hl
  exact kk H locs ls hP hS (lv_sub hl ks hl2)
theorem z_iadd {T : zX} {cc : ByteArray} {own : String} {fr lo cl ch : Nat} (hC : zOk T cc own fr lo cl ch) {σ : zSt} {pc : Nat} {lv : List (Nat × Value)} {st : List Value} {x y : Int32} (d : decode cc pc = .ok (.iadd, 1)) (kk : Z T σ (pc + 1) lv (.int (x + y) :: st)) : Z T σ pc lv (.int y :: .int x :: st) := by
  obtain ⟨p, l, e, R, s, m, args, below, meth, cd, Q, nL, G, mk, A, cells, slots⟩ := T
  obtain ⟨hx, hb, hml, hown, hts, hE, hA, hR, hM⟩ := hC
  intro H locs ls hP hS hl
  exact lv_iadd hx hb d  (kk H locs ls hP hS hl)
theorem z_isub {T : zX} {cc : ByteArray} {own : String} {fr lo cl ch : Nat} (hC : zOk T cc own fr lo cl ch) {σ : zSt} {pc : Nat} {lv : List (Nat × Value)} {st : List Value} {x y : Int32} (d : decode cc pc = .ok (.isub, 1)) (kk : Z T σ (pc + 1) lv (.int (x - y) :: st)) : Z T σ pc lv (.int y :: .int x :: st) := by
  obtain ⟨p, l, e, R, s, m, args, below, meth, cd, Q, nL, G, mk, A, cells, slots⟩ := T
  obtain ⟨hx, hb, hml, hown, hts, hE, hA, hR, hM⟩ := hC
  intro H locs ls hP hS hl
  exact lv_isub hx hb d  (kk H locs ls hP hS hl)
theorem z_imul {T : zX} {cc : ByteArray} {own : String} {fr lo cl ch : Nat} (hC : zOk T cc own fr lo cl ch) {σ : zSt} {pc : Nat} {lv : List (Nat × Value)} {st : List Value} {x y : Int32} (d : decode cc pc = .ok (.imul, 1)) (kk : Z T σ (pc + 1) lv (.int (x * y) :: st)) : Z T σ pc lv (.int y :: .int x :: st) := by
  obtain ⟨p, l, e, R, s, m, args, below, meth, cd, Q, nL, G, mk, A, cells, slots⟩ := T
  obtain ⟨hx, hb, hml, hown, hts, hE, hA, hR, hM⟩ := hC
  intro H locs ls hP hS hl
  exact lv_imul hx hb d  (kk H locs ls hP hS hl)
theorem z_iand {T : zX} {cc : ByteArray} {own : String} {fr lo cl ch : Nat} (hC : zOk T cc own fr lo cl ch) {σ : zSt} {pc : Nat} {lv : List (Nat × Value)} {st : List Value} {x y : Int32} (d : decode cc pc = .ok (.iand, 1)) (kk : Z T σ (pc + 1) lv (.int (x &&& y) :: st)) : Z T σ pc lv (.int y :: .int x :: st) := by
  obtain ⟨p, l, e, R, s, m, args, below, meth, cd, Q, nL, G, mk, A, cells, slots⟩ := T
  obtain ⟨hx, hb, hml, hown, hts, hE, hA, hR, hM⟩ := hC
  intro H locs ls hP hS hl
  exact lv_iand hx hb d  (kk H locs ls hP hS hl)
theorem z_ior {T : zX} {cc : ByteArray} {own : String} {fr lo cl ch : Nat} (hC : zOk T cc own fr lo cl ch) {σ : zSt} {pc : Nat} {lv : List (Nat × Value)} {st : List Value} {x y : Int32} (d : decode cc pc = .ok (.ior, 1)) (kk : Z T σ (pc + 1) lv (.int (x ||| y) :: st)) : Z T σ pc lv (.int y :: .int x :: st) := by
  obtain ⟨p, l, e, R, s, m, args, below, meth, cd, Q, nL, G, mk, A, cells, slots⟩ := T
  obtain ⟨hx, hb, hml, hown, hts, hE, hA, hR, hM⟩ := hC
  intro H locs ls hP hS hl
  exact lv_ior hx hb d  (kk H locs ls hP hS hl)
theorem z_ladd {T : zX} {cc : ByteArray} {own : String} {fr lo cl ch : Nat} (hC : zOk T cc own fr lo cl ch) {σ : zSt} {pc : Nat} {lv : List (Nat × Value)} {st : List Value} {x y : Int64} (d : decode cc pc = .ok (.ladd, 1)) (kk : Z T σ (pc + 1) lv (.long (x + y) :: st)) : Z T σ pc lv (.long y :: .long x :: st) := by
  obtain ⟨p, l, e, R, s, m, args, below, meth, cd, Q, nL, G, mk, A, cells, slots⟩ := T
  obtain ⟨hx, hb, hml, hown, hts, hE, hA, hR, hM⟩ := hC
  intro H locs ls hP hS hl
  exact lv_ladd hx hb d  (kk H locs ls hP hS hl)
theorem z_lsub {T : zX} {cc : ByteArray} {own : String} {fr lo cl ch : Nat} (hC : zOk T cc own fr lo cl ch) {σ : zSt} {pc : Nat} {lv : List (Nat × Value)} {st : List Value} {x y : Int64} (d : decode cc pc = .ok (.lsub, 1)) (kk : Z T σ (pc + 1) lv (.long (x - y) :: st)) : Z T σ pc lv (.long y :: .long x :: st) := by
  obtain ⟨p, l, e, R, s, m, args, below, meth, cd, Q, nL, G, mk, A, cells, slots⟩ := T
  obtain ⟨hx, hb, hml, hown, hts, hE, hA, hR, hM⟩ := hC
  intro H locs ls hP hS hl
  exact lv_lsub hx hb d  (kk H locs ls hP hS hl)
theorem z_lmul {T : zX} {cc : ByteArray} {own : String} {fr lo cl ch : Nat} (hC : zOk T cc own fr lo cl ch) {σ : zSt} {pc : Nat} {lv : List (Nat × Value)} {st : List Value} {x y : Int64} (d : decode cc pc = .ok (.lmul, 1)) (kk : Z T σ (pc + 1) lv (.long (x * y) :: st)) : Z T σ pc lv (.long y :: .long x :: st) := by
  obtain ⟨p, l, e, R, s, m, args, below, meth, cd, Q, nL, G, mk, A, cells, slots⟩ := T
  obtain ⟨hx, hb, hml, hown, hts, hE, hA, hR, hM⟩ := hC
  intro H locs ls hP hS hl
  exact lv_lmul hx hb d  (kk H locs ls hP hS hl)
theorem z_land {T : zX} {cc : ByteArray} {own : String} {fr lo cl ch : Nat} (hC : zOk T cc own fr lo cl ch) {σ : zSt} {pc : Nat} {lv : List (Nat × Value)} {st : List Value} {x y : Int64} (d : decode cc pc = .ok (.land, 1)) (kk : Z T σ (pc + 1) lv (.long (x &&& y) :: st)) : Z T σ pc lv (.long y :: .long x :: st) := by
  obtain ⟨p, l, e, R, s, m, args, below, meth, cd, Q, nL, G, mk, A, cells, slots⟩ := T
  obtain ⟨hx, hb, hml, hown, hts, hE, hA, hR, hM⟩ := hC
  intro H locs ls hP hS hl
  exact lv_land hx hb d  (kk H locs ls hP hS hl)
theorem z_lor {T : zX} {cc : ByteArray} {own : String} {fr lo cl ch : Nat} (hC : zOk T cc own fr lo cl ch) {σ : zSt} {pc : Nat} {lv : List (Nat × Value)} {st : List Value} {x y : Int64} (d : decode cc pc = .ok (.lor, 1)) (kk : Z T σ (pc + 1) lv (.long (x ||| y) :: st)) : Z T σ pc lv (.long y :: .long x :: st) := by
  obtain ⟨p, l, e, R, s, m, args, below, meth, cd, Q, nL, G, mk, A, cells, slots⟩ := T
  obtain ⟨hx, hb, hml, hown, hts, hE, hA, hR, hM⟩ := hC
  intro H locs ls hP hS hl
  exact lv_lor hx hb d  (kk H locs ls hP hS hl)
theorem z_lxor {T : zX} {cc : ByteArray} {own : String} {fr lo cl ch : Nat} (hC : zOk T cc own fr lo cl ch) {σ : zSt} {pc : Nat} {lv : List (Nat × Value)} {st : List Value} {x y : Int64} (d : decode cc pc = .ok (.lxor, 1)) (kk : Z T σ (pc + 1) lv (.long (x ^^^ y) :: st)) : Z T σ pc lv (.long y :: .long x :: st) := by
  obtain ⟨p, l, e, R, s, m, args, below, meth, cd, Q, nL, G, mk, A, cells, slots⟩ := T
  obtain ⟨hx, hb, hml, hown, hts, hE, hA, hR, hM⟩ := hC
  intro H locs ls hP hS hl
  exact lv_lxor hx hb d  (kk H locs ls hP hS hl)
theorem z_ishl {T : zX} {cc : ByteArray} {own : String} {fr lo cl ch : Nat} (hC : zOk T cc own fr lo cl ch) {σ : zSt} {pc : Nat} {lv : List (Nat × Value)} {st : List Value} {x y : Int32} (d : decode cc pc = .ok (.ishl, 1)) (kk : Z T σ (pc + 1) lv (.int (jshlI x y) :: st)) : Z T σ pc lv (.int y :: .int x :: st) := by
  obtain ⟨p, l, e, R, s, m, args, below, meth, cd, Q, nL, G, mk, A, cells, slots⟩ := T
  obtain ⟨hx, hb, hml, hown, hts, hE, hA, hR, hM⟩ := hC
  intro H locs ls hP hS hl
  exact lv_ishl hx hb d  (kk H locs ls hP hS hl)
theorem z_ishr {T : zX} {cc : ByteArray} {own : String} {fr lo cl ch : Nat} (hC : zOk T cc own fr lo cl ch) {σ : zSt} {pc : Nat} {lv : List (Nat × Value)} {st : List Value} {x y : Int32} (d : decode cc pc = .ok (.ishr, 1)) (kk : Z T σ (pc + 1) lv (.int (jshrI x y) :: st)) : Z T σ pc lv (.int y :: .int x :: st) := by
  obtain ⟨p, l, e, R, s, m, args, below, meth, cd, Q, nL, G, mk, A, cells, slots⟩ := T
  obtain ⟨hx, hb, hml, hown, hts, hE, hA, hR, hM⟩ := hC
  intro H locs ls hP hS hl
  exact lv_ishr hx hb d  (kk H locs ls hP hS hl)
theorem z_iushr {T : zX} {cc : ByteArray} {own : String} {fr lo cl ch : Nat} (hC : zOk T cc own fr lo cl ch) {σ : zSt} {pc : Nat} {lv : List (Nat × Value)} {st : List Value} {x y : Int32} (d : decode cc pc = .ok (.iushr, 1)) (kk : Z T σ (pc + 1) lv (.int (jushrI x y) :: st)) : Z T σ pc lv (.int y :: .int x :: st) := by
  obtain ⟨p, l, e, R, s, m, args, below, meth, cd, Q, nL, G, mk, A, cells, slots⟩ := T
  obtain ⟨hx, hb, hml, hown, hts, hE, hA, hR, hM⟩ := hC
  intro H locs ls hP hS hl
  exact lv_iushr hx hb d rfl (kk H locs ls hP hS hl)
theorem z_irem {T : zX} {cc : ByteArray} {own : String} {fr lo cl ch : Nat} (hC : zOk T cc own fr lo cl ch) {σ : zSt} {pc : Nat} {lv : List (Nat × Value)} {st : List Value} {x y : Int32} (hne : ¬ y = 0) (d : decode cc pc = .ok (.irem, 1)) (kk : Z T σ (pc + 1) lv (.int (jremI x y) :: st)) : Z T σ pc lv (.int y :: .int x :: st) := by
  obtain ⟨p, l, e, R, s, m, args, below, meth, cd, Q, nL, G, mk, A, cells, slots⟩ := T
  obtain ⟨hx, hb, hml, hown, hts, hE, hA, hR, hM⟩ := hC
  intro H locs ls hP hS hl
  exact lv_irem hx hb d hne (kk H locs ls hP hS hl)
theorem z_idiv {T : zX} {cc : ByteArray} {own : String} {fr lo cl ch : Nat} (hC : zOk T cc own fr lo cl ch) {σ : zSt} {pc : Nat} {lv : List (Nat × Value)} {st : List Value} {x y : Int32} (hne : ¬ y = 0) (d : decode cc pc = .ok (.idiv, 1)) (kk : Z T σ (pc + 1) lv (.int (x / y) :: st)) : Z T σ pc lv (.int y :: .int x :: st) := by
  obtain ⟨p, l, e, R, s, m, args, below, meth, cd, Q, nL, G, mk, A, cells, slots⟩ := T
  obtain ⟨hx, hb, hml, hown, hts, hE, hA, hR, hM⟩ := hC
  intro H locs ls hP hS hl
  exact lv_idiv hx hb d hne (kk H locs ls hP hS hl)
theorem z_ldiv {T : zX} {cc : ByteArray} {own : String} {fr lo cl ch : Nat} (hC : zOk T cc own fr lo cl ch) {σ : zSt} {pc : Nat} {lv : List (Nat × Value)} {st : List Value} {x y : Int64} (hne : ¬ y = 0) (d : decode cc pc = .ok (.ldiv, 1)) (kk : Z T σ (pc + 1) lv (.long (x / y) :: st)) : Z T σ pc lv (.long y :: .long x :: st) := by
  obtain ⟨p, l, e, R, s, m, args, below, meth, cd, Q, nL, G, mk, A, cells, slots⟩ := T
  obtain ⟨hx, hb, hml, hown, hts, hE, hA, hR, hM⟩ := hC
  intro H locs ls hP hS hl
  exact lv_ldiv hx hb d hne (kk H locs ls hP hS hl)
theorem z_lrem {T : zX} {cc : ByteArray} {own : String} {fr lo cl ch : Nat} (hC : zOk T cc own fr lo cl ch) {σ : zSt} {pc : Nat} {lv : List (Nat × Value)} {st : List Value} {x y : Int64} (hne : ¬ y = 0) (d : decode cc pc = .ok (.lrem, 1)) (kk : Z T σ (pc + 1) lv (.long (jremL x y) :: st)) : Z T σ pc lv (.long y :: .long x :: st) := by
  obtain ⟨p, l, e, R, s, m, args, below, meth, cd, Q, nL, G, mk, A, cells, slots⟩ := T
  obtain ⟨hx, hb, hml, hown, hts, hE, hA, hR, hM⟩ := hC
  intro H locs ls hP hS hl
  exact lv_lrem hx hb d hne (kk H locs ls hP hS hl)
theorem z_lneg {T : zX} {cc : ByteArray} {own : String} {fr lo cl ch : Nat} (hC : zOk T cc own fr lo cl ch) {σ : zSt} {pc : Nat} {lv : List (Nat × Value)} {st : List Value} {x : Int64} (d : decode cc pc = .ok (.lneg, 1)) (kk : Z T σ (pc + 1) lv (.long (-x) :: st)) : Z T σ pc lv (.long x :: st) := by
  obtain ⟨p, l, e, R, s, m, args, below, meth, cd, Q, nL, G, mk, A, cells, slots⟩ := T
  obtain ⟨hx, hb, hml, hown, hts, hE, hA, hR, hM⟩ := hC
  intro H locs ls hP hS hl
  exact lv_lneg hx hb d  (kk H locs ls hP hS hl)
theorem z_ineg {T : zX} {cc : ByteArray} {own : String} {fr lo cl ch : Nat} (hC : zOk T cc own fr lo cl ch) {σ : zSt} {pc : Nat} {lv : List (Nat × Value)} {st : List Value} {x : Int32} (d : decode cc pc = .ok (.ineg, 1)) (kk : Z T σ (pc + 1) lv (.int (-x) :: st)) : Z T σ pc lv (.int x :: st) := by
  obtain ⟨p, l, e, R, s, m, args, below, meth, cd, Q, nL, G, mk, A, cells, slots⟩ := T
  obtain ⟨hx, hb, hml, hown, hts, hE, hA, hR, hM⟩ := hC
  intro H locs ls hP hS hl
  exact lv_ineg hx hb d  (kk H locs ls hP hS hl)
theorem z_lshr {T : zX} {cc : ByteArray} {own : String} {fr lo cl ch : Nat} (hC : zOk T cc own fr lo cl ch) {σ : zSt} {pc : Nat} {lv : List (Nat × Value)} {st : List Value} {x : Int64} {y : Int32} (d : decode cc pc = .ok (.lshr, 1)) (kk : Z T σ (pc + 1) lv (.long (jshrL x y) :: st)) : Z T σ pc lv (.int y :: .long x :: st) := by
  obtain ⟨p, l, e, R, s, m, args, below, meth, cd, Q, nL, G, mk, A, cells, slots⟩ := T
  obtain ⟨hx, hb, hml, hown, hts, hE, hA, hR, hM⟩ := hC
  intro H locs ls hP hS hl
  exact lv_lshr hx hb d rfl (kk H locs ls hP hS hl)
theorem z_lshl {T : zX} {cc : ByteArray} {own : String} {fr lo cl ch : Nat} (hC : zOk T cc own fr lo cl ch) {σ : zSt} {pc : Nat} {lv : List (Nat × Value)} {st : List Value} {x : Int64} {y : Int32} (d : decode cc pc = .ok (.lshl, 1)) (kk : Z T σ (pc + 1) lv (.long (jshlL x y) :: st)) : Z T σ pc lv (.int y :: .long x :: st) := by
  obtain ⟨p, l, e, R, s, m, args, below, meth, cd, Q, nL, G, mk, A, cells, slots⟩ := T
  obtain ⟨hx, hb, hml, hown, hts, hE, hA, hR, hM⟩ := hC
  intro H locs ls hP hS hl
  exact lv_lshl hx hb d rfl (kk H locs ls hP hS hl)
theorem z_i2l {T : zX} {cc : ByteArray} {own : String} {fr lo cl ch : Nat} (hC : zOk T cc own fr lo cl ch) {σ : zSt} {pc : Nat} {lv : List (Nat × Value)} {st : List Value} {x : Int32} (d : decode cc pc = .ok (.i2l, 1)) (kk : Z T σ (pc + 1) lv (.long x.toInt64 :: st)) : Z T σ pc lv (.int x :: st) := by
  obtain ⟨p, l, e, R, s, m, args, below, meth, cd, Q, nL, G, mk, A, cells, slots⟩ := T
  obtain ⟨hx, hb, hml, hown, hts, hE, hA, hR, hM⟩ := hC
  intro H locs ls hP hS hl
  exact lv_i2l hx hb d rfl (kk H locs ls hP hS hl)
theorem z_l2i {T : zX} {cc : ByteArray} {own : String} {fr lo cl ch : Nat} (hC : zOk T cc own fr lo cl ch) {σ : zSt} {pc : Nat} {lv : List (Nat × Value)} {st : List Value} {x : Int64} (d : decode cc pc = .ok (.l2i, 1)) (kk : Z T σ (pc + 1) lv (.int x.toInt32 :: st)) : Z T σ pc lv (.long x :: st) := by
  obtain ⟨p, l, e, R, s, m, args, below, meth, cd, Q, nL, G, mk, A, cells, slots⟩ := T
  obtain ⟨hx, hb, hml, hown, hts, hE, hA, hR, hM⟩ := hC
  intro H locs ls hP hS hl
  exact lv_l2i hx hb d rfl (kk H locs ls hP hS hl)
theorem z_i2b {T : zX} {cc : ByteArray} {own : String} {fr lo cl ch : Nat} (hC : zOk T cc own fr lo cl ch) {σ : zSt} {pc : Nat} {lv : List (Nat × Value)} {st : List Value} {x : Int32} (d : decode cc pc = .ok (.i2b, 1)) (kk : Z T σ (pc + 1) lv (.int x.toInt8.toInt32 :: st)) : Z T σ pc lv (.int x :: st) := by
  obtain ⟨p, l, e, R, s, m, args, below, meth, cd, Q, nL, G, mk, A, cells, slots⟩ := T
  obtain ⟨hx, hb, hml, hown, hts, hE, hA, hR, hM⟩ := hC
  intro H locs ls hP hS hl
  exact lv_i2b hx hb d rfl (kk H locs ls hP hS hl)
theorem z_i2c {T : zX} {cc : ByteArray} {own : String} {fr lo cl ch : Nat} (hC : zOk T cc own fr lo cl ch) {σ : zSt} {pc : Nat} {lv : List (Nat × Value)} {st : List Value} {x : Int32} (d : decode cc pc = .ok (.i2c, 1)) (kk : Z T σ (pc + 1) lv (.int (x.toUInt32 % 65536).toInt32 :: st)) : Z T σ pc lv (.int x :: st) := by
  obtain ⟨p, l, e, R, s, m, args, below, meth, cd, Q, nL, G, mk, A, cells, slots⟩ := T
  obtain ⟨hx, hb, hml, hown, hts, hE, hA, hR, hM⟩ := hC
  intro H locs ls hP hS hl
  exact lv_i2c hx hb d rfl (kk H locs ls hP hS hl)
theorem z_dup {T : zX} {cc : ByteArray} {own : String} {fr lo cl ch : Nat} (hC : zOk T cc own fr lo cl ch) {σ : zSt} {pc : Nat} {lv : List (Nat × Value)} {st : List Value} {v : Value} (hv : v.category = 1) (d : decode cc pc = .ok (.dup, 1)) (kk : Z T σ (pc + 1) lv (v :: v :: st)) : Z T σ pc lv (v :: st) := by
  obtain ⟨p, l, e, R, s, m, args, below, meth, cd, Q, nL, G, mk, A, cells, slots⟩ := T
  obtain ⟨hx, hb, hml, hown, hts, hE, hA, hR, hM⟩ := hC
  intro H locs ls hP hS hl
  exact lv_dup hx hb d hv (kk H locs ls hP hS hl)
theorem z_pop {T : zX} {cc : ByteArray} {own : String} {fr lo cl ch : Nat} (hC : zOk T cc own fr lo cl ch) {σ : zSt} {pc : Nat} {lv : List (Nat × Value)} {st : List Value} {v : Value} (hv : v.category = 1) (d : decode cc pc = .ok (.pop, 1)) (kk : Z T σ (pc + 1) lv (st)) : Z T σ pc lv (v :: st) := by
  obtain ⟨p, l, e, R, s, m, args, below, meth, cd, Q, nL, G, mk, A, cells, slots⟩ := T
  obtain ⟨hx, hb, hml, hown, hts, hE, hA, hR, hM⟩ := hC
  intro H locs ls hP hS hl
  exact lv_pop hx hb d hv (kk H locs ls hP hS hl)
theorem z_pop2 {T : zX} {cc : ByteArray} {own : String} {fr lo cl ch : Nat} (hC : zOk T cc own fr lo cl ch) {σ : zSt} {pc : Nat} {lv : List (Nat × Value)} {st : List Value} {v : Value} (hv : v.category = 2) (d : decode cc pc = .ok (.pop2, 1)) (kk : Z T σ (pc + 1) lv (st)) : Z T σ pc lv (v :: st) := by
  obtain ⟨p, l, e, R, s, m, args, below, meth, cd, Q, nL, G, mk, A, cells, slots⟩ := T
  obtain ⟨hx, hb, hml, hown, hts, hE, hA, hR, hM⟩ := hC
  intro H locs ls hP hS hl
  exact lv_pop2_2 hx hb d hv (kk H locs ls hP hS hl)
theorem z_goto {T : zX} {cc : ByteArray} {own : String} {fr lo cl ch : Nat} (hC : zOk T cc own fr lo cl ch) {σ : zSt} {pc : Nat} {lv : List (Nat × Value)} {st : List Value} {off : Int} (tgt : Nat) (ht : (pc : Int) + off = (tgt : Int)) (d : decode cc pc = .ok (.goto off, 3)) (kk : Z T σ tgt lv st) : Z T σ pc lv st := by
  obtain ⟨p, l, e, R, s, m, args, below, meth, cd, Q, nL, G, mk, A, cells, slots⟩ := T
  obtain ⟨hx, hb, hml, hown, hts, hE, hA, hR, hM⟩ := hC
  intro H locs ls hP hS hl
  exact lv_goto hx hb d ht (kk H locs ls hP hS hl)
theorem z_ifnonnull {T : zX} {cc : ByteArray} {own : String} {fr lo cl ch : Nat} (hC : zOk T cc own fr lo cl ch) {σ : zSt} {pc : Nat} {lv : List (Nat × Value)} {st : List Value} {x : Nat} {off : Int} (tgt : Nat) (ht : (pc : Int) + off = (tgt : Int)) (d : decode cc pc = .ok (.ifnonnull off, 3)) (kk : Z T σ tgt lv st) : Z T σ pc lv (.ref x :: st) := by
  obtain ⟨p, l, e, R, s, m, args, below, meth, cd, Q, nL, G, mk, A, cells, slots⟩ := T
  obtain ⟨hx, hb, hml, hown, hts, hE, hA, hR, hM⟩ := hC
  intro H locs ls hP hS hl
  exact lv_ifnonnull hx hb d ht (kk H locs ls hP hS hl)
theorem z_icmp_eq {T : zX} {cc : ByteArray} {own : String} {fr lo cl ch : Nat} (hC : zOk T cc own fr lo cl ch) {σ : zSt} {pc : Nat} {lv : List (Nat × Value)} {st : List Value} {x y : Int32} {off : Int} (tgt : Nat) (ht : (pc : Int) + off = (tgt : Int)) (d : decode cc pc = .ok (.if_icmp .eq off, 3)) (kt : x = y → Z T σ tgt lv st) (kf : ¬ x = y → Z T σ (pc + 3) lv st) : Z T σ pc lv (.int y :: .int x :: st) := by
  obtain ⟨p, l, e, R, s, m, args, below, meth, cd, Q, nL, G, mk, A, cells, slots⟩ := T
  obtain ⟨hx, hb, hml, hown, hts, hE, hA, hR, hM⟩ := hC
  intro H locs ls hP hS hl
  exact lv_icmp_eq hx hb d ht (fun q => kt q H locs ls hP hS hl) (fun q => kf q H locs ls hP hS hl)
theorem z_if_eq {T : zX} {cc : ByteArray} {own : String} {fr lo cl ch : Nat} (hC : zOk T cc own fr lo cl ch) {σ : zSt} {pc : Nat} {lv : List (Nat × Value)} {st : List Value} {x : Int32} {off : Int} (tgt : Nat) (ht : (pc : Int) + off = (tgt : Int)) (d : decode cc pc = .ok (.ifCond .eq off, 3)) (kt : x = 0 → Z T σ tgt lv st) (kf : ¬ x = 0 → Z T σ (pc + 3) lv st) : Z T σ pc lv (.int x :: st) := by
  obtain ⟨p, l, e, R, s, m, args, below, meth, cd, Q, nL, G, mk, A, cells, slots⟩ := T
  obtain ⟨hx, hb, hml, hown, hts, hE, hA, hR, hM⟩ := hC
  intro H locs ls hP hS hl
  exact lv_if_eq hx hb d ht (fun q => kt q H locs ls hP hS hl) (fun q => kf q H locs ls hP hS hl)
theorem z_cmp_eq {T : zX} {cc : ByteArray} {own : String} {fr lo cl ch : Nat} (hC : zOk T cc own fr lo cl ch) {σ : zSt} {pc : Nat} {lv : List (Nat × Value)} {st : List Value} {x y : Int64} {off : Int} (tgt : Nat) (ht : ((pc + 1 : Nat) : Int) + off = (tgt : Int)) (d : decode cc pc = .ok (.lcmp, 1)) (d2 : decode cc (pc + 1) = .ok (.ifCond .eq off, 3)) (kt : x = y → Z T σ tgt lv st) (kf : ¬ x = y → Z T σ (pc + 4) lv st) : Z T σ pc lv (.long y :: .long x :: st) := by
  obtain ⟨p, l, e, R, s, m, args, below, meth, cd, Q, nL, G, mk, A, cells, slots⟩ := T
  obtain ⟨hx, hb, hml, hown, hts, hE, hA, hR, hM⟩ := hC
  intro H locs ls hP hS hl
  exact W.lcmp hx hb d (lv_if_eq hx hb d2 ht (fun q => kt ((lg_cmp_eq x y).mp q) H locs ls hP hS hl) (fun q => kf (fun z => q ((lg_cmp_eq x y).mpr z)) H locs ls hP hS hl))
theorem z_icmp_ne {T : zX} {cc : ByteArray} {own : String} {fr lo cl ch : Nat} (hC : zOk T cc own fr lo cl ch) {σ : zSt} {pc : Nat} {lv : List (Nat × Value)} {st : List Value} {x y : Int32} {off : Int} (tgt : Nat) (ht : (pc : Int) + off = (tgt : Int)) (d : decode cc pc = .ok (.if_icmp .ne off, 3)) (kt : ¬ x = y → Z T σ tgt lv st) (kf : x = y → Z T σ (pc + 3) lv st) : Z T σ pc lv (.int y :: .int x :: st) := by
  obtain ⟨p, l, e, R, s, m, args, below, meth, cd, Q, nL, G, mk, A, cells, slots⟩ := T
  obtain ⟨hx, hb, hml, hown, hts, hE, hA, hR, hM⟩ := hC
  intro H locs ls hP hS hl
  exact lv_icmp_ne hx hb d ht (fun q => kt q H locs ls hP hS hl) (fun q => kf q H locs ls hP hS hl)
theorem z_if_ne {T : zX} {cc : ByteArray} {own : String} {fr lo cl ch : Nat} (hC : zOk T cc own fr lo cl ch) {σ : zSt} {pc : Nat} {lv : List (Nat × Value)} {st : List Value} {x : Int32} {off : Int} (tgt : Nat) (ht : (pc : Int) + off = (tgt : Int)) (d : decode cc pc = .ok (.ifCond .ne off, 3)) (kt : ¬ x = 0 → Z T σ tgt lv st) (kf : x = 0 → Z T σ (pc + 3) lv st) : Z T σ pc lv (.int x :: st) := by
  obtain ⟨p, l, e, R, s, m, args, below, meth, cd, Q, nL, G, mk, A, cells, slots⟩ := T
  obtain ⟨hx, hb, hml, hown, hts, hE, hA, hR, hM⟩ := hC
  intro H locs ls hP hS hl
  exact lv_if_ne hx hb d ht (fun q => kt q H locs ls hP hS hl) (fun q => kf q H locs ls hP hS hl)
theorem z_cmp_ne {T : zX} {cc : ByteArray} {own : String} {fr lo cl ch : Nat} (hC : zOk T cc own fr lo cl ch) {σ : zSt} {pc : Nat} {lv : List (Nat × Value)} {st : List Value} {x y : Int64} {off : Int} (tgt : Nat) (ht : ((pc + 1 : Nat) : Int) + off = (tgt : Int)) (d : decode cc pc = .ok (.lcmp, 1)) (d2 : decode cc (pc + 1) = .ok (.ifCond .ne off, 3)) (kt : ¬ x = y → Z T σ tgt lv st) (kf : x = y → Z T σ (pc + 4) lv st) : Z T σ pc lv (.long y :: .long x :: st) := by
  obtain ⟨p, l, e, R, s, m, args, below, meth, cd, Q, nL, G, mk, A, cells, slots⟩ := T
  obtain ⟨hx, hb, hml, hown, hts, hE, hA, hR, hM⟩ := hC
  intro H locs ls hP hS hl
  exact W.lcmp hx hb d (lv_if_ne hx hb d2 ht (fun q => kt (fun z => q ((lg_cmp_eq x y).mpr z)) H locs ls hP hS hl) (fun q => kf ((lg_cmp_eq x y).mp q) H locs ls hP hS hl))
theorem z_icmp_lt {T : zX} {cc : ByteArray} {own : String} {fr lo cl ch : Nat} (hC : zOk T cc own fr lo cl ch) {σ : zSt} {pc : Nat} {lv : List (Nat × Value)} {st : List Value} {x y : Int32} {off : Int} (tgt : Nat) (ht : (pc : Int) + off = (tgt : Int)) (d : decode cc pc = .ok (.if_icmp .lt off, 3)) (kt : x < y → Z T σ tgt lv st) (kf : ¬ x < y → Z T σ (pc + 3) lv st) : Z T σ pc lv (.int y :: .int x :: st) := by
  obtain ⟨p, l, e, R, s, m, args, below, meth, cd, Q, nL, G, mk, A, cells, slots⟩ := T
  obtain ⟨hx, hb, hml, hown, hts, hE, hA, hR, hM⟩ := hC
  intro H locs ls hP hS hl
  exact lv_icmp_lt hx hb d ht (fun q => kt q H locs ls hP hS hl) (fun q => kf q H locs ls hP hS hl)
theorem z_if_lt {T : zX} {cc : ByteArray} {own : String} {fr lo cl ch : Nat} (hC : zOk T cc own fr lo cl ch) {σ : zSt} {pc : Nat} {lv : List (Nat × Value)} {st : List Value} {x : Int32} {off : Int} (tgt : Nat) (ht : (pc : Int) + off = (tgt : Int)) (d : decode cc pc = .ok (.ifCond .lt off, 3)) (kt : x < 0 → Z T σ tgt lv st) (kf : ¬ x < 0 → Z T σ (pc + 3) lv st) : Z T σ pc lv (.int x :: st) := by
  obtain ⟨p, l, e, R, s, m, args, below, meth, cd, Q, nL, G, mk, A, cells, slots⟩ := T
  obtain ⟨hx, hb, hml, hown, hts, hE, hA, hR, hM⟩ := hC
  intro H locs ls hP hS hl
  exact lv_if_lt hx hb d ht (fun q => kt q H locs ls hP hS hl) (fun q => kf q H locs ls hP hS hl)
theorem z_cmp_lt {T : zX} {cc : ByteArray} {own : String} {fr lo cl ch : Nat} (hC : zOk T cc own fr lo cl ch) {σ : zSt} {pc : Nat} {lv : List (Nat × Value)} {st : List Value} {x y : Int64} {off : Int} (tgt : Nat) (ht : ((pc + 1 : Nat) : Int) + off = (tgt : Int)) (d : decode cc pc = .ok (.lcmp, 1)) (d2 : decode cc (pc + 1) = .ok (.ifCond .lt off, 3)) (kt : x < y → Z T σ tgt lv st) (kf : ¬ x < y → Z T σ (pc + 4) lv st) : Z T σ pc lv (.long y :: .long x :: st) := by
  obtain ⟨p, l, e, R, s, m, args, below, meth, cd, Q, nL, G, mk, A, cells, slots⟩ := T
  obtain ⟨hx, hb, hml, hown, hts, hE, hA, hR, hM⟩ := hC
  intro H locs ls hP hS hl
  exact W.lcmp hx hb d (lv_if_lt hx hb d2 ht (fun q => kt ((lg_cmp_lt x y).mp q) H locs ls hP hS hl) (fun q => kf (fun z => q ((lg_cmp_lt x y).mpr z)) H locs ls hP hS hl))
theorem z_icmp_ge {T : zX} {cc : ByteArray} {own : String} {fr lo cl ch : Nat} (hC : zOk T cc own fr lo cl ch) {σ : zSt} {pc : Nat} {lv : List (Nat × Value)} {st : List Value} {x y : Int32} {off : Int} (tgt : Nat) (ht : (pc : Int) + off = (tgt : Int)) (d : decode cc pc = .ok (.if_icmp .ge off, 3)) (kt : y ≤ x → Z T σ tgt lv st) (kf : ¬ y ≤ x → Z T σ (pc + 3) lv st) : Z T σ pc lv (.int y :: .int x :: st) := by
  obtain ⟨p, l, e, R, s, m, args, below, meth, cd, Q, nL, G, mk, A, cells, slots⟩ := T
  obtain ⟨hx, hb, hml, hown, hts, hE, hA, hR, hM⟩ := hC
  intro H locs ls hP hS hl
  exact lv_icmp_ge hx hb d ht (fun q => kt q H locs ls hP hS hl) (fun q => kf q H locs ls hP hS hl)
theorem z_if_ge {T : zX} {cc : ByteArray} {own : String} {fr lo cl ch : Nat} (hC : zOk T cc own fr lo cl ch) {σ : zSt} {pc : Nat} {lv : List (Nat × Value)} {st : List Value} {x : Int32} {off : Int} (tgt : Nat) (ht : (pc : Int) + off = (tgt : Int)) (d : decode cc pc = .ok (.ifCond .ge off, 3)) (kt : 0 ≤ x → Z T σ tgt lv st) (kf : ¬ 0 ≤ x → Z T σ (pc + 3) lv st) : Z T σ pc lv (.int x :: st) := by
  obtain ⟨p, l, e, R, s, m, args, below, meth, cd, Q, nL, G, mk, A, cells, slots⟩ := T
  obtain ⟨hx, hb, hml, hown, hts, hE, hA, hR, hM⟩ := hC
  intro H locs ls hP hS hl
  exact lv_if_ge hx hb d ht (fun q => kt q H locs ls hP hS hl) (fun q => kf q H locs ls hP hS hl)
theorem z_cmp_ge {T : zX} {cc : ByteArray} {own : String} {fr lo cl ch : Nat} (hC : zOk T cc own fr lo cl ch) {σ : zSt} {pc : Nat} {lv : List (Nat × Value)} {st : List Value} {x y : Int64} {off : Int} (tgt : Nat) (ht : ((pc + 1 : Nat) : Int) + off = (tgt : Int)) (d : decode cc pc = .ok (.lcmp, 1)) (d2 : decode cc (pc + 1) = .ok (.ifCond .ge off, 3)) (kt : y ≤ x → Z T σ tgt lv st) (kf : ¬ y ≤ x → Z T σ (pc + 4) lv st) : Z T σ pc lv (.long y :: .long x :: st) := by
  obtain ⟨p, l, e, R, s, m, args, below, meth, cd, Q, nL, G, mk, A, cells, slots⟩ := T
  obtain ⟨hx, hb, hml, hown, hts, hE, hA, hR, hM⟩ := hC
  intro H locs ls hP hS hl
  exact W.lcmp hx hb d (lv_if_ge hx hb d2 ht (fun q => kt ((lg_cmp_ge x y).mp q) H locs ls hP hS hl) (fun q => kf (fun z => q ((lg_cmp_ge x y).mpr z)) H locs ls hP hS hl))
theorem z_icmp_gt {T : zX} {cc : ByteArray} {own : String} {fr lo cl ch : Nat} (hC : zOk T cc own fr lo cl ch) {σ : zSt} {pc : Nat} {lv : List (Nat × Value)} {st : List Value} {x y : Int32} {off : Int} (tgt : Nat) (ht : (pc : Int) + off = (tgt : Int)) (d : decode cc pc = .ok (.if_icmp .gt off, 3)) (kt : y < x → Z T σ tgt lv st) (kf : ¬ y < x → Z T σ (pc + 3) lv st) : Z T σ pc lv (.int y :: .int x :: st) := by
  obtain ⟨p, l, e, R, s, m, args, below, meth, cd, Q, nL, G, mk, A, cells, slots⟩ := T
  obtain ⟨hx, hb, hml, hown, hts, hE, hA, hR, hM⟩ := hC
  intro H locs ls hP hS hl
  exact lv_icmp_gt hx hb d ht (fun q => kt q H locs ls hP hS hl) (fun q => kf q H locs ls hP hS hl)
theorem z_if_gt {T : zX} {cc : ByteArray} {own : String} {fr lo cl ch : Nat} (hC : zOk T cc own fr lo cl ch) {σ : zSt} {pc : Nat} {lv : List (Nat × Value)} {st : List Value} {x : Int32} {off : Int} (tgt : Nat) (ht : (pc : Int) + off = (tgt : Int)) (d : decode cc pc = .ok (.ifCond .gt off, 3)) (kt : 0 < x → Z T σ tgt lv st) (kf : ¬ 0 < x → Z T σ (pc + 3) lv st) : Z T σ pc lv (.int x :: st) := by
  obtain ⟨p, l, e, R, s, m, args, below, meth, cd, Q, nL, G, mk, A, cells, slots⟩ := T
  obtain ⟨hx, hb, hml, hown, hts, hE, hA, hR, hM⟩ := hC
  intro H locs ls hP hS hl
  exact lv_if_gt hx hb d ht (fun q => kt q H locs ls hP hS hl) (fun q => kf q H locs ls hP hS hl)
theorem z_cmp_gt {T : zX} {cc : ByteArray} {own : String} {fr lo cl ch : Nat} (hC : zOk T cc own fr lo cl ch) {σ : zSt} {pc : Nat} {lv : List (Nat × Value)} {st : List Value} {x y : Int64} {off : Int} (tgt : Nat) (ht : ((pc + 1 : Nat) : Int) + off = (tgt : Int)) (d : decode cc pc = .ok (.lcmp, 1)) (d2 : decode cc (pc + 1) = .ok (.ifCond .gt off, 3)) (kt : y < x → Z T σ tgt lv st) (kf : ¬ y < x → Z T σ (pc + 4) lv st) : Z T σ pc lv (.long y :: .long x :: st) := by
  obtain ⟨p, l, e, R, s, m, args, below, meth, cd, Q, nL, G, mk, A, cells, slots⟩ := T
  obtain ⟨hx, hb, hml, hown, hts, hE, hA, hR, hM⟩ := hC
  intro H locs ls hP hS hl
  exact W.lcmp hx hb d (lv_if_gt hx hb d2 ht (fun q => kt ((lg_cmp_gt x y).mp q) H locs ls hP hS hl) (fun q => kf (fun z => q ((lg_cmp_gt x y).mpr z)) H locs ls hP hS hl))
theorem z_icmp_le {T : zX} {cc : ByteArray} {own : String} {fr lo cl ch : Nat} (hC : zOk T cc own fr lo cl ch) {σ : zSt} {pc : Nat} {lv : List (Nat × Value)} {st : List Value} {x y : Int32} {off : Int} (tgt : Nat) (ht : (pc : Int) + off = (tgt : Int)) (d : decode cc pc = .ok (.if_icmp .le off, 3)) (kt : x ≤ y → Z T σ tgt lv st) (kf : ¬ x ≤ y → Z T σ (pc + 3) lv st) : Z T σ pc lv (.int y :: .int x :: st) := by
  obtain ⟨p, l, e, R, s, m, args, below, meth, cd, Q, nL, G, mk, A, cells, slots⟩ := T
  obtain ⟨hx, hb, hml, hown, hts, hE, hA, hR, hM⟩ := hC
  intro H locs ls hP hS hl
  exact lv_icmp_le hx hb d ht (fun q => kt q H locs ls hP hS hl) (fun q => kf q H locs ls hP hS hl)
theorem z_if_le {T : zX} {cc : ByteArray} {own : String} {fr lo cl ch : Nat} (hC : zOk T cc own fr lo cl ch) {σ : zSt} {pc : Nat} {lv : List (Nat × Value)} {st : List Value} {x : Int32} {off : Int} (tgt : Nat) (ht : (pc : Int) + off = (tgt : Int)) (d : decode cc pc = .ok (.ifCond .le off, 3)) (kt : x ≤ 0 → Z T σ tgt lv st) (kf : ¬ x ≤ 0 → Z T σ (pc + 3) lv st) : Z T σ pc lv (.int x :: st) := by
  obtain ⟨p, l, e, R, s, m, args, below, meth, cd, Q, nL, G, mk, A, cells, slots⟩ := T
  obtain ⟨hx, hb, hml, hown, hts, hE, hA, hR, hM⟩ := hC
  intro H locs ls hP hS hl
  exact lv_if_le hx hb d ht (fun q => kt q H locs ls hP hS hl) (fun q => kf q H locs ls hP hS hl)
theorem z_cmp_le {T : zX} {cc : ByteArray} {own : String} {fr lo cl ch : Nat} (hC : zOk T cc own fr lo cl ch) {σ : zSt} {pc : Nat} {lv : List (Nat × Value)} {st : List Value} {x y : Int64} {off : Int} (tgt : Nat) (ht : ((pc + 1 : Nat) : Int) + off = (tgt : Int)) (d : decode cc pc = .ok (.lcmp, 1)) (d2 : decode cc (pc + 1) = .ok (.ifCond .le off, 3)) (kt : x ≤ y → Z T σ tgt lv st) (kf : ¬ x ≤ y → Z T σ (pc + 4) lv st) : Z T σ pc lv (.long y :: .long x :: st) := by
  obtain ⟨p, l, e, R, s, m, args, below, meth, cd, Q, nL, G, mk, A, cells, slots⟩ := T
  obtain ⟨hx, hb, hml, hown, hts, hE, hA, hR, hM⟩ := hC
  intro H locs ls hP hS hl
  exact W.lcmp hx hb d (lv_if_le hx hb d2 ht (fun q => kt ((lg_cmp_le x y).mp q) H locs ls hP hS hl) (fun q => kf (fun z => q ((lg_cmp_le x y).mpr z)) H locs ls hP hS hl))
theorem z_tabIn {T : zX} {cc : ByteArray} {own : String} {fr lo cl ch : Nat} (hC : zOk T cc own fr lo cl ch) {σ : zSt} {pc : Nat} {lv : List (Nat × Value)} {st : List Value} {dflt lo2 hi2 : Int} {offs : Array Int} {len : Nat} {x : Int32} (off : Int) (tgt : Nat) (h1 : ¬ x.toInt < lo2) (h2 : ¬ hi2 < x.toInt) (ho : offs[(x.toInt - lo2).toNat]? = some off) (ht : (pc : Int) + off = (tgt : Int)) (d : decode cc pc = .ok (.tableswitch dflt lo2 hi2 offs, len)) (kk : Z T σ tgt lv st) : Z T σ pc lv (.int x :: st) := by
  obtain ⟨p, l, e, R, s, m, args, below, meth, cd, Q, nL, G, mk, A, cells, slots⟩ := T
  obtain ⟨hx, hb, hml, hown, hts, hE, hA, hR, hM⟩ := hC
  intro H locs ls hP hS hl
  exact lv_tableIn hx hb d h1 h2 ho ht (kk H locs ls hP hS hl)
theorem z_tabOut {T : zX} {cc : ByteArray} {own : String} {fr lo cl ch : Nat} (hC : zOk T cc own fr lo cl ch) {σ : zSt} {pc : Nat} {lv : List (Nat × Value)} {st : List Value} {dflt lo2 hi2 : Int} {offs : Array Int} {len : Nat} {x : Int32} (tgt : Nat) (h : x.toInt < lo2 ∨ hi2 < x.toInt) (ht : (pc : Int) + dflt = (tgt : Int)) (d : decode cc pc = .ok (.tableswitch dflt lo2 hi2 offs, len)) (kk : Z T σ tgt lv st) : Z T σ pc lv (.int x :: st) := by
  obtain ⟨p, l, e, R, s, m, args, below, meth, cd, Q, nL, G, mk, A, cells, slots⟩ := T
  obtain ⟨hx, hb, hml, hown, hts, hE, hA, hR, hM⟩ := hC
  intro H locs ls hP hS hl
  exact lv_tableOut hx hb d h ht (kk H locs ls hP hS hl)
theorem z_iret {T : zX} {cc : ByteArray} {own : String} {fr lo cl ch : Nat} (hC : zOk T cc own fr lo cl ch)  {σ : zSt} {pc : Nat} {lv : List (Nat × Value)} {x : Int32} (hQ : zRes T (some .int) (some (.int x)) σ) (d : decode cc pc = .ok (.ireturn, 1))  : Z T σ pc lv [.int x] := by
  obtain ⟨p, l, e, R, s, m, args, below, meth, cd, Q, nL, G, mk, A, cells, slots⟩ := T
  obtain ⟨hx, hb, hml, hown, hts, hE, hA, hR, hM⟩ := hC
  obtain ⟨hA2, rfl, hr, hlk⟩ := hQ
  subst hA2
  intro H locs ls hP hS hl
  exact W.iret hx hb hr  (fun t ht hW => ⟨rfl, by rw [ht]; exact hP, hS.F ht⟩) hS.2.2 d hlk
theorem z_lret {T : zX} {cc : ByteArray} {own : String} {fr lo cl ch : Nat} (hC : zOk T cc own fr lo cl ch)  {σ : zSt} {pc : Nat} {lv : List (Nat × Value)} {x : Int64} (hQ : zRes T (some .long) (some (.long x)) σ) (d : decode cc pc = .ok (.lreturn, 1))  : Z T σ pc lv [.long x] := by
  obtain ⟨p, l, e, R, s, m, args, below, meth, cd, Q, nL, G, mk, A, cells, slots⟩ := T
  obtain ⟨hx, hb, hml, hown, hts, hE, hA, hR, hM⟩ := hC
  obtain ⟨hA2, rfl, hr, hlk⟩ := hQ
  subst hA2
  intro H locs ls hP hS hl
  exact W.lret hx hb hr  (fun t ht hW => ⟨rfl, by rw [ht]; exact hP, hS.F ht⟩) hS.2.2 d hlk
theorem z_vret {T : zX} {cc : ByteArray} {own : String} {fr lo cl ch : Nat} (hC : zOk T cc own fr lo cl ch)  {σ : zSt} {pc : Nat} {lv : List (Nat × Value)}  (hQ : zRes T none (none) σ) (d : decode cc pc = .ok (.return_, 1))  : Z T σ pc lv [] := by
  obtain ⟨p, l, e, R, s, m, args, below, meth, cd, Q, nL, G, mk, A, cells, slots⟩ := T
  obtain ⟨hx, hb, hml, hown, hts, hE, hA, hR, hM⟩ := hC
  obtain ⟨hA2, rfl, hr, hlk⟩ := hQ
  subst hA2
  intro H locs ls hP hS hl
  exact W.vret hx hb hr  (fun t ht hW => ⟨rfl, by rw [ht]; exact hP, hS.F ht⟩) hS.2.2 d hlk
theorem z_zret {T : zX} {cc : ByteArray} {own : String} {fr lo cl ch : Nat} (hC : zOk T cc own fr lo cl ch) {ty : FieldType} {σ : zSt} {pc : Nat} {lv : List (Nat × Value)} {x : Int32} (hQ : zRes T (some ty) (some (.int x)) σ) (d : decode cc pc = .ok (.ireturn, 1)) (hn : narrow ty (.int x) = .int x) : Z T σ pc lv [.int x] := by
  obtain ⟨p, l, e, R, s, m, args, below, meth, cd, Q, nL, G, mk, A, cells, slots⟩ := T
  obtain ⟨hx, hb, hml, hown, hts, hE, hA, hR, hM⟩ := hC
  obtain ⟨hA2, rfl, hr, hlk⟩ := hQ
  subst hA2
  intro H locs ls hP hS hl
  exact W.zret hx hb hr hn (fun t ht hW => ⟨rfl, by rw [ht]; exact hP, hS.F ht⟩) hS.2.2 d hlk
theorem z_aret {T : zX} {cc : ByteArray} {own : String} {fr lo cl ch : Nat} (hC : zOk T cc own fr lo cl ch) {ob : String} {σ : zSt} {pc : Nat} {lv : List (Nat × Value)} {x : Nat} (hQ : zRes T (some (.object ob)) (some (.ref x)) σ) (d : decode cc pc = .ok (.areturn, 1))  : Z T σ pc lv [.ref x] := by
  obtain ⟨p, l, e, R, s, m, args, below, meth, cd, Q, nL, G, mk, A, cells, slots⟩ := T
  obtain ⟨hx, hb, hml, hown, hts, hE, hA, hR, hM⟩ := hC
  obtain ⟨hA2, rfl, hr, hlk⟩ := hQ
  subst hA2
  intro H locs ls hP hS hl
  exact W.aret hx hb hr (Or.inl ⟨ob, rfl⟩) (Or.inr ⟨x, rfl⟩) (fun t ht hW => ⟨rfl, by rw [ht]; exact hP, hS.F ht⟩) hS.2.2 d hlk
theorem z_nmI {T : zX} {σ : zSt} {pc : Nat} {lv : List (Nat × Value)} {st : List Value} {β : Type} {e : Int32} {f : Int32 → β} {v : β} (h : nm e f = v) (kk : ∀ x, f x = v → Z T σ pc lv (.int x :: st)) : Z T σ pc lv (.int e :: st) := kk e h
theorem z_nmL {T : zX} {σ : zSt} {pc : Nat} {lv : List (Nat × Value)} {st : List Value} {β : Type} {e : Int64} {f : Int64 → β} {v : β} (h : nm e f = v) (kk : ∀ x, f x = v → Z T σ pc lv (.long x :: st)) : Z T σ pc lv (.long e :: st) := kk e h
theorem z_nmS {T : zX} {σ : zSt} {pc : Nat} {lv : List (Nat × Value)} {st : List Value} {β : Type} {f : zSt → β} {v : β} (h : nm σ f = v) (kk : ∀ τ, f τ = v → Z T τ pc lv st) : Z T σ pc lv st := kk σ h
theorem z_t {α : Type} {c : Prop} {D : Decidable c} {a b v : α} (q : c) (h : @ite α c D a b = v) : a = v := by rw [if_pos q] at h; exact h
theorem z_f {α : Type} {c : Prop} {D : Decidable c} {a b v : α} (q : ¬ c) (h : @ite α c D a b = v) : b = v := by rw [if_neg q] at h; exact h
theorem z_ite {α : Type} {P : Prop} {c : Prop} {D : Decidable c} {a b v : α} (h : @ite α c D a b = v) (kt : c → a = v → P) (kf : ¬ c → b = v → P) : P := by
  by_cases q : c
  · exact kt q (z_t q h)
  · exact kf q (z_f q h)
theorem z_g {P c : Prop} {α : Type} {x : Option α} {v : α} (h : zg c x = some v) (kk : c → x = some v → P) : P := kk (zg_out h).1 (zg_out h).2
theorem z_b1 {P : Prop} {α γ : Type} {x : Option α} {f : α → Option γ} {v : γ} (h : bd1 x f = some v) (kk : ∀ a, x = some a → f a = some v → P) : P := by
  obtain ⟨a, h1, h2⟩ := bd1_out h
  exact kk a h1 h2
theorem z_b2 {P : Prop} {α β γ : Type} {x : Option (α × β)} {f : α → β → Option γ} {v : γ} (h : bd2 x f = some v) (kk : ∀ a b, x = some (a, b) → f a b = some v → P) : P := by
  obtain ⟨a, b, h1, h2⟩ := bd2_out h
  exact kk a b h1 h2
theorem z_nmE {P : Prop} {α β : Type} {e : α} {f : α → β} {v : β} (h : nm e f = v) (kk : ∀ x, x = e → f x = v → P) : P := kk e rfl h
theorem zvp8 {i : Int32} (h : vp_in i 8) : i.toNatClampNeg < 10 := by
  have : i.toNatClampNeg < 8 := Nat.not_le.mp fun q => h (Or.inr q)
  omega
theorem z_tabD {T : zX} {cc : ByteArray} {own : String} {fr lo cl ch : Nat} (hC : zOk T cc own fr lo cl ch) {σ : zSt} {pc : Nat} {lv : List (Nat × Value)} {st : List Value} {dflt lo2 hi2 : Int} {offs : Array Int} {len : Nat} {x : Int32} (n tgt : Nat) (hn : hi2 + 1 = lo2 + n) (hg : ∀ i : Nat, i < n → offs[i]? = some dflt ∨ ¬ Int32.ofInt (lo2 + (i : Int)) = x) (ht : (pc : Int) + dflt = (tgt : Int)) (d : decode cc pc = .ok (.tableswitch dflt lo2 hi2 offs, len)) (kk : Z T σ tgt lv st) : Z T σ pc lv (.int x :: st) := by
  by_cases h1 : x.toInt < lo2
  · exact z_tabOut hC tgt (Or.inl h1) ht d kk
  · by_cases h2 : hi2 < x.toInt
    · exact z_tabOut hC tgt (Or.inr h2) ht d kk
    · have hk : lo2 + (((x.toInt - lo2).toNat : Nat) : Int) = x.toInt := by omega
      rcases hg (x.toInt - lo2).toNat (by omega) with q | q
      · exact z_tabIn hC dflt tgt h1 h2 q ht d kk
      · exact absurd (by rw [hk]; exact Int32.ofInt_toInt x) q
theorem z_get {T : zX} {cc : ByteArray} {own : String} {fr lo cl ch : Nat} (hC : zOk T cc own fr lo cl ch) {σ : zSt} {pc : Nat} {lv : List (Nat × Value)} {st : List Value} {ref C : String} {N ci index : Nat} {TT : u_T} {fs : List Value} (c k : Nat) (hc : cl ≤ c ∧ c < ch) (he : zS (zGr T) c (σ.1 c) (σ.2 c) = .inr (ci, fs)) (hcl : vwCl[ci]? = some (C, TT, N)) (hin : ∀ w ∈ u_ws C TT N, w ∈ zT) (hk : k < N) (hr : (TT k).1 = ref) (hw : Cond.fieldLink own index ref (TT k).2.1 (TT k).2.2.1 ∈ zT) (v : Value) (hv : fs[k]? = some v) (d : decode cc pc = .ok (.getfield index, 3)) (kk : Z T σ (pc + 3) lv (v :: st)) : Z T σ pc lv (.ref (zAd T c) :: st) := by
  obtain ⟨p, l, e, R, s, m, args, below, meth, cd, Q, nL, G, mk, A, cells, slots⟩ := T
  obtain ⟨hx, hb, hml, hown, hts, hE, hA, hR, hM⟩ := hC
  intro H locs ls hP hS hl
  obtain ⟨h85, hM⟩ := hM
  obtain ⟨m1, m2, -, -⟩ := hM σ c hc.1 hc.2
  refine va_get (D := G.1) (ws := zW G (mk σ)) (C := C) (T := TT) (N := N) (ref := ref) hx hb hts hin hown hE.1 hP c (fs := fs) ?_ hcl k hk (hts _ hw) (fun x hx => by rw [← hr]; exact hx) hv d (kk H locs ls hP hS hl)
  rw [zW_at (by omega), m1, m2]
  exact congrArg (fun e => some (gA G c, e)) he
theorem z_putI {T : zX} {cc : ByteArray} {own : String} {fr lo cl ch : Nat} (hC : zOk T cc own fr lo cl ch) {σ : zSt} {pc : Nat} {lv : List (Nat × Value)} {st : List Value} {ref C : String} {N ci index : Nat} {TT : u_T} {fs : List Value} {x : Int32} (c k : Nat) (hc : cl ≤ c ∧ c < ch) (he : zS (zGr T) c (σ.1 c) (σ.2 c) = .inr (ci, fs)) (he2 : zS (zGr T) c ((si σ c k x).1 c) ((si σ c k x).2 c) = .inr (ci, fs.set k (.int x))) (hcl : vwCl[ci]? = some (C, TT, N)) (hin : ∀ w ∈ u_ws C TT N, w ∈ zT) (ty0 : Nat → FieldType) (hty : ∀ k, k < N → parseFieldDescriptor (TT k).2.2.1 = some (ty0 k)) (hnm : ∀ a, a < N → ∀ b, b < N → a ≠ b → (TT a).2.1 ≠ (TT b).2.1) (hk : k < N) (hr : (TT k).1 = ref) (hw : Cond.fieldLink own index ref (TT k).2.1 (TT k).2.2.1 ∈ zT) (hfin : (TT k).2.2.2 = false) {ty : FieldType} (hd : parseFieldDescriptor (TT k).2.2.1 = some ty) (hn : narrow ty (.int x) = .int x) (hfit : fits ty (.int x) = true) (hlen : k < fs.length) (d : decode cc pc = .ok (.putfield index, 3)) (kk : Z T (si σ c k x) (pc + 3) lv st) : Z T σ pc lv (.int x :: .ref (zAd T c) :: st) := by
  obtain ⟨p, l, e, R, s, m, args, below, meth, cd, Q, nL, G, mk, A, cells, slots⟩ := T
  obtain ⟨hx, hb, hml, hown, hts, hE, hA, hR, hM⟩ := hC
  intro H locs ls hP hS hl
  obtain ⟨h85, hM⟩ := hM
  obtain ⟨m1, m2, m3, m4⟩ := hM σ c hc.1 hc.2
  have hD := zW_D (G := G) (τ := mk σ) (A := A) hE.2.1 hA
  refine va_put (D := G.1) (ws := zW G (mk σ)) (C := C) (T := TT) (N := N) (ref := ref) hx hb hts hin ty0 hty hnm hown hE.1 hP hD hS c (fs := fs) ?_ hcl k hk (hts _ hw) (fun x hx => by rw [← hr]; exact hx) hfin hd hn hfit hlen d (fun H1 locs1 hP1 hD1 hS1 => ?_)
  · rw [zW_at (by omega), m1, m2]
    exact congrArg (fun e => some (gA G c, e)) he
  · refine kk H1 locs1 ls ?_ hS1 hl
    rw [m3, ← zW_set (τ := mk σ) (τ' := si (mk σ) c k x) (c := c) (e := .inr (ci, fs.set k (.int x))) (by omega) ?_ (si_n (mk σ) c k x)]
    · exact hP1
    · rw [← he2, ← m3]
      obtain ⟨n1, n2, -, -⟩ := hM (si σ c k x) c hc.1 hc.2
      rw [n1, n2]
theorem z_putL {T : zX} {cc : ByteArray} {own : String} {fr lo cl ch : Nat} (hC : zOk T cc own fr lo cl ch) {σ : zSt} {pc : Nat} {lv : List (Nat × Value)} {st : List Value} {ref C : String} {N ci index : Nat} {TT : u_T} {fs : List Value} {x : Int64} (c k : Nat) (hc : cl ≤ c ∧ c < ch) (he : zS (zGr T) c (σ.1 c) (σ.2 c) = .inr (ci, fs)) (he2 : zS (zGr T) c ((sl σ c k x).1 c) ((sl σ c k x).2 c) = .inr (ci, fs.set k (.long x))) (hcl : vwCl[ci]? = some (C, TT, N)) (hin : ∀ w ∈ u_ws C TT N, w ∈ zT) (ty0 : Nat → FieldType) (hty : ∀ k, k < N → parseFieldDescriptor (TT k).2.2.1 = some (ty0 k)) (hnm : ∀ a, a < N → ∀ b, b < N → a ≠ b → (TT a).2.1 ≠ (TT b).2.1) (hk : k < N) (hr : (TT k).1 = ref) (hw : Cond.fieldLink own index ref (TT k).2.1 (TT k).2.2.1 ∈ zT) (hfin : (TT k).2.2.2 = false) {ty : FieldType} (hd : parseFieldDescriptor (TT k).2.2.1 = some ty) (hn : narrow ty (.long x) = .long x) (hfit : fits ty (.long x) = true) (hlen : k < fs.length) (d : decode cc pc = .ok (.putfield index, 3)) (kk : Z T (sl σ c k x) (pc + 3) lv st) : Z T σ pc lv (.long x :: .ref (zAd T c) :: st) := by
  obtain ⟨p, l, e, R, s, m, args, below, meth, cd, Q, nL, G, mk, A, cells, slots⟩ := T
  obtain ⟨hx, hb, hml, hown, hts, hE, hA, hR, hM⟩ := hC
  intro H locs ls hP hS hl
  obtain ⟨h85, hM⟩ := hM
  obtain ⟨m1, m2, m3, m4⟩ := hM σ c hc.1 hc.2
  have hD := zW_D (G := G) (τ := mk σ) (A := A) hE.2.1 hA
  refine va_put (D := G.1) (ws := zW G (mk σ)) (C := C) (T := TT) (N := N) (ref := ref) hx hb hts hin ty0 hty hnm hown hE.1 hP hD hS c (fs := fs) ?_ hcl k hk (hts _ hw) (fun x hx => by rw [← hr]; exact hx) hfin hd hn hfit hlen d (fun H1 locs1 hP1 hD1 hS1 => ?_)
  · rw [zW_at (by omega), m1, m2]
    exact congrArg (fun e => some (gA G c, e)) he
  · refine kk H1 locs1 ls ?_ hS1 hl
    rw [m4, ← zW_set (τ := mk σ) (τ' := sl (mk σ) c k x) (c := c) (e := .inr (ci, fs.set k (.long x))) (by omega) ?_ (sl_n (mk σ) c k x)]
    · exact hP1
    · rw [← he2, ← m4]
      obtain ⟨n1, n2, -, -⟩ := hM (sl σ c k x) c hc.1 hc.2
      rw [n1, n2]
theorem z_iald {T : zX} {cc : ByteArray} {own : String} {fr lo cl ch : Nat} (hC : zOk T cc own fr lo cl ch) {σ : zSt} {pc : Nat} {lv : List (Nat × Value)} {st : List Value} {N : Nat} {i : Int32} (c : Nat) (hc : cl ≤ c ∧ c < ch) (he : zS (zGr T) c (σ.1 c) (σ.2 c) = .inl (gC (zGr T) 0, N, .inl (σ.1 c))) (hin : vp_in i N) (v : Int32) (hv : gi σ c i.toNatClampNeg = v) (d : decode cc pc = .ok (.iaload, 1)) (kk : Z T σ (pc + 1) lv (.int v :: st)) : Z T σ pc lv (.int i :: .ref (zAd T c) :: st) := by
  obtain ⟨p, l, e, R, s, m, args, below, meth, cd, Q, nL, G, mk, A, cells, slots⟩ := T
  obtain ⟨hx, hb, hml, hown, hts, hE, hA, hR, hM⟩ := hC
  intro H locs ls hP hS hl
  obtain ⟨h85, hM⟩ := hM
  obtain ⟨m1, m2, -, -⟩ := hM σ c hc.1 hc.2
  subst hv
  refine va_iald (D := G.1) (ws := zW G (mk σ)) hx hb hE.1 hP c 0 ?_ rfl hin d (kk H locs ls hP hS hl)
  rw [zW_at (by omega), m1, m2]
  exact congrArg (fun e => some (gA G c, e)) he
theorem z_bald {T : zX} {cc : ByteArray} {own : String} {fr lo cl ch : Nat} (hC : zOk T cc own fr lo cl ch) {σ : zSt} {pc : Nat} {lv : List (Nat × Value)} {st : List Value} {N : Nat} {i : Int32} (c : Nat) (hc : cl ≤ c ∧ c < ch) (he : zS (zGr T) c (σ.1 c) (σ.2 c) = .inl (gC (zGr T) 2, N, .inl (σ.1 c))) (hin : vp_in i N) (v : Int32) (hv : gi σ c i.toNatClampNeg = v) (d : decode cc pc = .ok (.baload, 1)) (kk : Z T σ (pc + 1) lv (.int v :: st)) : Z T σ pc lv (.int i :: .ref (zAd T c) :: st) := by
  obtain ⟨p, l, e, R, s, m, args, below, meth, cd, Q, nL, G, mk, A, cells, slots⟩ := T
  obtain ⟨hx, hb, hml, hown, hts, hE, hA, hR, hM⟩ := hC
  intro H locs ls hP hS hl
  obtain ⟨h85, hM⟩ := hM
  obtain ⟨m1, m2, -, -⟩ := hM σ c hc.1 hc.2
  subst hv
  refine va_bald (D := G.1) (ws := zW G (mk σ)) hx hb hE.1 hP c 2 ?_ rfl hin d (kk H locs ls hP hS hl)
  rw [zW_at (by omega), m1, m2]
  exact congrArg (fun e => some (gA G c, e)) he
theorem z_zald {T : zX} {cc : ByteArray} {own : String} {fr lo cl ch : Nat} (hC : zOk T cc own fr lo cl ch) {σ : zSt} {pc : Nat} {lv : List (Nat × Value)} {st : List Value} {N : Nat} {i : Int32} (c : Nat) (hc : cl ≤ c ∧ c < ch) (he : zS (zGr T) c (σ.1 c) (σ.2 c) = .inl (gC (zGr T) 3, N, .inl (σ.1 c))) (hin : vp_in i N) (v : Int32) (hv : gi σ c i.toNatClampNeg = v) (d : decode cc pc = .ok (.baload, 1)) (kk : Z T σ (pc + 1) lv (.int v :: st)) : Z T σ pc lv (.int i :: .ref (zAd T c) :: st) := by
  obtain ⟨p, l, e, R, s, m, args, below, meth, cd, Q, nL, G, mk, A, cells, slots⟩ := T
  obtain ⟨hx, hb, hml, hown, hts, hE, hA, hR, hM⟩ := hC
  intro H locs ls hP hS hl
  obtain ⟨h85, hM⟩ := hM
  obtain ⟨m1, m2, -, -⟩ := hM σ c hc.1 hc.2
  subst hv
  refine va_zald (D := G.1) (ws := zW G (mk σ)) hx hb hE.1 hP c 3 ?_ rfl hin d (kk H locs ls hP hS hl)
  rw [zW_at (by omega), m1, m2]
  exact congrArg (fun e => some (gA G c, e)) he
theorem z_lald {T : zX} {cc : ByteArray} {own : String} {fr lo cl ch : Nat} (hC : zOk T cc own fr lo cl ch) {σ : zSt} {pc : Nat} {lv : List (Nat × Value)} {st : List Value} {N : Nat} {i : Int32} (c : Nat) (hc : cl ≤ c ∧ c < ch) (he : zS (zGr T) c (σ.1 c) (σ.2 c) = .inl (gC (zGr T) 1, N, .inr (.inl (σ.2 c)))) (hin : vp_in i N) (v : Int64) (hv : gl σ c i.toNatClampNeg = v) (d : decode cc pc = .ok (.laload, 1)) (kk : Z T σ (pc + 1) lv (.long v :: st)) : Z T σ pc lv (.int i :: .ref (zAd T c) :: st) := by
  obtain ⟨p, l, e, R, s, m, args, below, meth, cd, Q, nL, G, mk, A, cells, slots⟩ := T
  obtain ⟨hx, hb, hml, hown, hts, hE, hA, hR, hM⟩ := hC
  intro H locs ls hP hS hl
  obtain ⟨h85, hM⟩ := hM
  obtain ⟨m1, m2, -, -⟩ := hM σ c hc.1 hc.2
  subst hv
  refine va_lald (D := G.1) (ws := zW G (mk σ)) hx hb hE.1 hP c 1 ?_ rfl hin d (kk H locs ls hP hS hl)
  rw [zW_at (by omega), m1, m2]
  exact congrArg (fun e => some (gA G c, e)) he
theorem z_iast {T : zX} {cc : ByteArray} {own : String} {fr lo cl ch : Nat} (hC : zOk T cc own fr lo cl ch) {σ : zSt} {pc : Nat} {lv : List (Nat × Value)} {st : List Value} {N : Nat} {i : Int32} {x : Int32} (c : Nat) (hc : cl ≤ c ∧ c < ch) (he : ∀ f g, zS (zGr T) c f g = .inl (gC (zGr T) 0, N, .inl f)) (hin : vp_in i N) (d : decode cc pc = .ok (.iastore, 1)) (kk : Z T (si σ c i.toNatClampNeg (x)) (pc + 1) lv st) : Z T σ pc lv (.int x :: .int i :: .ref (zAd T c) :: st) := by
  obtain ⟨p, l, e, R, s, m, args, below, meth, cd, Q, nL, G, mk, A, cells, slots⟩ := T
  obtain ⟨hx, hb, hml, hown, hts, hE, hA, hR, hM⟩ := hC
  intro H locs ls hP hS hl
  obtain ⟨h85, hM⟩ := hM
  obtain ⟨m1, m2, m3, m4⟩ := hM σ c hc.1 hc.2
  have hD := zW_D (G := G) (τ := mk σ) (A := A) hE.2.1 hA
  refine va_iast (D := G.1) (ws := zW G (mk σ)) (f := (mk σ).1 c) hx hb hE.1 hP hD hS c 0 ?_ rfl hin d (fun H1 locs1 hP1 hD1 hS1 => ?_)
  · rw [zW_at (by omega)]
    exact congrArg (fun e => some (gA G c, e)) (he _ _)
  · refine kk H1 locs1 ls ?_ hS1 hl
    rw [m3, ← zW_set (τ := mk σ) (τ' := si (mk σ) c i.toNatClampNeg (x)) (c := c) (e := .inl (gC G 0, N, .inl (upd ((mk σ).1 c) i.toNatClampNeg x))) (by omega) ?_ (si_n (mk σ) c i.toNatClampNeg (x))]
    · exact hP1
    · rw [si_u]; exact he _ _
theorem z_bast {T : zX} {cc : ByteArray} {own : String} {fr lo cl ch : Nat} (hC : zOk T cc own fr lo cl ch) {σ : zSt} {pc : Nat} {lv : List (Nat × Value)} {st : List Value} {N : Nat} {i : Int32} {x : Int32} (c : Nat) (hc : cl ≤ c ∧ c < ch) (he : ∀ f g, zS (zGr T) c f g = .inl (gC (zGr T) 2, N, .inl f)) (hin : vp_in i N) (d : decode cc pc = .ok (.bastore, 1)) (kk : Z T (si σ c i.toNatClampNeg (vp_nar .byte x)) (pc + 1) lv st) : Z T σ pc lv (.int x :: .int i :: .ref (zAd T c) :: st) := by
  obtain ⟨p, l, e, R, s, m, args, below, meth, cd, Q, nL, G, mk, A, cells, slots⟩ := T
  obtain ⟨hx, hb, hml, hown, hts, hE, hA, hR, hM⟩ := hC
  intro H locs ls hP hS hl
  obtain ⟨h85, hM⟩ := hM
  obtain ⟨m1, m2, m3, m4⟩ := hM σ c hc.1 hc.2
  have hD := zW_D (G := G) (τ := mk σ) (A := A) hE.2.1 hA
  refine va_bast (D := G.1) (ws := zW G (mk σ)) (f := (mk σ).1 c) hx hb hE.1 hP hD hS c 2 ?_ rfl hin d (fun H1 locs1 hP1 hD1 hS1 => ?_)
  · rw [zW_at (by omega)]
    exact congrArg (fun e => some (gA G c, e)) (he _ _)
  · refine kk H1 locs1 ls ?_ hS1 hl
    rw [m3, ← zW_set (τ := mk σ) (τ' := si (mk σ) c i.toNatClampNeg (vp_nar .byte x)) (c := c) (e := .inl (gC G 2, N, .inl (upd ((mk σ).1 c) i.toNatClampNeg (vp_nar .byte x)))) (by omega) ?_ (si_n (mk σ) c i.toNatClampNeg (vp_nar .byte x))]
    · exact hP1
    · rw [si_u]; exact he _ _
theorem z_zast {T : zX} {cc : ByteArray} {own : String} {fr lo cl ch : Nat} (hC : zOk T cc own fr lo cl ch) {σ : zSt} {pc : Nat} {lv : List (Nat × Value)} {st : List Value} {N : Nat} {i : Int32} {x : Int32} (c : Nat) (hc : cl ≤ c ∧ c < ch) (he : ∀ f g, zS (zGr T) c f g = .inl (gC (zGr T) 3, N, .inl f)) (hin : vp_in i N) (d : decode cc pc = .ok (.bastore, 1)) (kk : Z T (si σ c i.toNatClampNeg (vp_nar .boolean x)) (pc + 1) lv st) : Z T σ pc lv (.int x :: .int i :: .ref (zAd T c) :: st) := by
  obtain ⟨p, l, e, R, s, m, args, below, meth, cd, Q, nL, G, mk, A, cells, slots⟩ := T
  obtain ⟨hx, hb, hml, hown, hts, hE, hA, hR, hM⟩ := hC
  intro H locs ls hP hS hl
  obtain ⟨h85, hM⟩ := hM
  obtain ⟨m1, m2, m3, m4⟩ := hM σ c hc.1 hc.2
  have hD := zW_D (G := G) (τ := mk σ) (A := A) hE.2.1 hA
  refine va_zast (D := G.1) (ws := zW G (mk σ)) (f := (mk σ).1 c) hx hb hE.1 hP hD hS c 3 ?_ rfl hin d (fun H1 locs1 hP1 hD1 hS1 => ?_)
  · rw [zW_at (by omega)]
    exact congrArg (fun e => some (gA G c, e)) (he _ _)
  · refine kk H1 locs1 ls ?_ hS1 hl
    rw [m3, ← zW_set (τ := mk σ) (τ' := si (mk σ) c i.toNatClampNeg (vp_nar .boolean x)) (c := c) (e := .inl (gC G 3, N, .inl (upd ((mk σ).1 c) i.toNatClampNeg (vp_nar .boolean x)))) (by omega) ?_ (si_n (mk σ) c i.toNatClampNeg (vp_nar .boolean x))]
    · exact hP1
    · rw [si_u]; exact he _ _
theorem z_last {T : zX} {cc : ByteArray} {own : String} {fr lo cl ch : Nat} (hC : zOk T cc own fr lo cl ch) {σ : zSt} {pc : Nat} {lv : List (Nat × Value)} {st : List Value} {N : Nat} {i : Int32} {x : Int64} (c : Nat) (hc : cl ≤ c ∧ c < ch) (he : ∀ f g, zS (zGr T) c f g = .inl (gC (zGr T) 1, N, .inr (.inl g))) (hin : vp_in i N) (d : decode cc pc = .ok (.lastore, 1)) (kk : Z T (sl σ c i.toNatClampNeg (x)) (pc + 1) lv st) : Z T σ pc lv (.long x :: .int i :: .ref (zAd T c) :: st) := by
  obtain ⟨p, l, e, R, s, m, args, below, meth, cd, Q, nL, G, mk, A, cells, slots⟩ := T
  obtain ⟨hx, hb, hml, hown, hts, hE, hA, hR, hM⟩ := hC
  intro H locs ls hP hS hl
  obtain ⟨h85, hM⟩ := hM
  obtain ⟨m1, m2, m3, m4⟩ := hM σ c hc.1 hc.2
  have hD := zW_D (G := G) (τ := mk σ) (A := A) hE.2.1 hA
  refine va_last (D := G.1) (ws := zW G (mk σ)) (f := (mk σ).2 c) hx hb hE.1 hP hD hS c 1 ?_ rfl hin d (fun H1 locs1 hP1 hD1 hS1 => ?_)
  · rw [zW_at (by omega)]
    exact congrArg (fun e => some (gA G c, e)) (he _ _)
  · refine kk H1 locs1 ls ?_ hS1 hl
    rw [m4, ← zW_set (τ := mk σ) (τ' := sl (mk σ) c i.toNatClampNeg (x)) (c := c) (e := .inl (gC G 1, N, .inr (.inl (vp_updL ((mk σ).2 c) i.toNatClampNeg x)))) (by omega) ?_ (sl_n (mk σ) c i.toNatClampNeg (x))]
    · exact hP1
    · rw [sl_u]; exact he _ _
theorem z_alen {T : zX} {cc : ByteArray} {own : String} {fr lo cl ch : Nat} (hC : zOk T cc own fr lo cl ch) {σ : zSt} {pc : Nat} {lv : List (Nat × Value)} {st : List Value} {N : Nat} (c ti : Nat) (hc : c < 85) {ty : FieldType} {shp : (Nat → Int32) → (Nat → Int64) → va_E} {x : vp_A} (he : ∀ f g, ∃ x : vp_A, zS (zGr T) c f g = .inl (gC (zGr T) ti, x) ∧ x.1 = N) (hti : (gTys (zGr T))[ti]? = some (gC (zGr T) ti, ty)) (v : Int32) (hv : Int32.ofNat N = v) (d : decode cc pc = .ok (.arraylength, 1)) (kk : Z T σ (pc + 1) lv (.int v :: st)) : Z T σ pc lv (.ref (zAd T c) :: st) := by
  obtain ⟨p, l, e, R, s, m, args, below, meth, cd, Q, nL, G, mk, A, cells, slots⟩ := T
  obtain ⟨hx, hb, hml, hown, hts, hE, hA, hR, hM⟩ := hC
  intro H locs ls hP hS hl
  obtain ⟨x, e1, e2⟩ := he ((mk σ).1 c) ((mk σ).2 c)
  refine va_alen (D := G.1) (ws := zW G (mk σ)) hx hb hE.1 hP c ti (x := x) ?_ hti (by rw [e2]; exact hv) d (kk H locs ls hP hS hl)
  rw [zW_at hc]
  exact congrArg (fun e => some (gA G c, e)) e1
theorem z_aald {T : zX} {cc : ByteArray} {own : String} {fr lo cl ch : Nat} (hC : zOk T cc own fr lo cl ch) {σ : zSt} {pc : Nat} {lv : List (Nat × Value)} {st : List Value} {i : Int32} (hc : cl ≤ 7 ∧ 7 < ch) (hin : vp_in i 8) (d : decode cc pc = .ok (.aaload, 1)) (kk : Z T σ (pc + 1) lv (.ref (zAd T (21 + 4 * i.toNatClampNeg)) :: st)) : Z T σ pc lv (.int i :: .ref (zAd T 7) :: st) := by
  obtain ⟨p, l, e, R, s, m, args, below, meth, cd, Q, nL, G, mk, A, cells, slots⟩ := T
  obtain ⟨hx, hb, hml, hown, hts, hE, hA, hR, hM⟩ := hC
  intro H locs ls hP hS hl
  refine va_aldq (D := G.1) (ws := zW G (mk σ)) (f := fun j => some (gA G (21 + 4 * j))) hx hb hE.1 hP 7 4 ?_ rfl hin d (kk H locs ls hP hS hl)
  rw [zW_at (by omega), zS_7]
theorem z_mmaxL {T : zX} {cc : ByteArray} {own : String} {fr lo cl ch : Nat} (hC : zOk T cc own fr lo cl ch) {σ : zSt} {pc : Nat} {lv : List (Nat × Value)} {st : List Value} {index : Nat} {x y : Int64} (hw : Cond.methodLink own index Lib.MathLoose.max_long.x ∈ zT) (h1 : 1 ≤ fr) (h2 : (st.map fun v => v.category).sum + 15 ≤ lo) (d : decode cc pc = .ok (.invokestatic index, 3)) (kk : Z T σ (pc + 3) lv (.long (if y < x then x else y) :: st)) : Z T σ pc lv (.long y :: .long x :: st) := by
  obtain ⟨p, l, e, R, s, m, args, below, meth, cd, Q, nL, G, mk, A, cells, slots⟩ := T
  obtain ⟨hx, hb, hml, hown, hts, hE, hA, hR, hM⟩ := hC
  intro H locs ls hP hS hl
  exact va_mmax_long hx hb (hml.trans hl.1.symm) hown (hts _ hw) (hts _ zm_mmaxL_s) (hts _ zm_ini) (hts _ zm_mmaxL_c) (by omega) (by omega) hR.2.2.1 hR.2.2.2 d (kk H locs ls hP hS hl)
theorem z_mminL {T : zX} {cc : ByteArray} {own : String} {fr lo cl ch : Nat} (hC : zOk T cc own fr lo cl ch) {σ : zSt} {pc : Nat} {lv : List (Nat × Value)} {st : List Value} {index : Nat} {x y : Int64} (hw : Cond.methodLink own index Lib.MathLoose.min_long.x ∈ zT) (h1 : 1 ≤ fr) (h2 : (st.map fun v => v.category).sum + 15 ≤ lo) (d : decode cc pc = .ok (.invokestatic index, 3)) (kk : Z T σ (pc + 3) lv (.long (if y < x then y else x) :: st)) : Z T σ pc lv (.long y :: .long x :: st) := by
  obtain ⟨p, l, e, R, s, m, args, below, meth, cd, Q, nL, G, mk, A, cells, slots⟩ := T
  obtain ⟨hx, hb, hml, hown, hts, hE, hA, hR, hM⟩ := hC
  intro H locs ls hP hS hl
  exact va_mmin_long hx hb (hml.trans hl.1.symm) hown (hts _ hw) (hts _ zm_mminL_s) (hts _ zm_ini) (hts _ zm_mminL_c) (by omega) (by omega) hR.2.2.1 hR.2.2.2 d (kk H locs ls hP hS hl)
theorem z_mabsL {T : zX} {cc : ByteArray} {own : String} {fr lo cl ch : Nat} (hC : zOk T cc own fr lo cl ch) {σ : zSt} {pc : Nat} {lv : List (Nat × Value)} {st : List Value} {index : Nat} {x  : Int64} (hw : Cond.methodLink own index Lib.MathLoose.abs_long.x ∈ zT) (h1 : 1 ≤ fr) (h2 : (st.map fun v => v.category).sum + 13 ≤ lo) (d : decode cc pc = .ok (.invokestatic index, 3)) (kk : Z T σ (pc + 3) lv (.long (if 0 < x then x else -x) :: st)) : Z T σ pc lv (.long x :: st) := by
  obtain ⟨p, l, e, R, s, m, args, below, meth, cd, Q, nL, G, mk, A, cells, slots⟩ := T
  obtain ⟨hx, hb, hml, hown, hts, hE, hA, hR, hM⟩ := hC
  intro H locs ls hP hS hl
  exact va_mabs_long hx hb (hml.trans hl.1.symm) hown (hts _ hw) (hts _ zm_mabsL_s) (hts _ zm_ini) (hts _ zm_mabsL_c) (by omega) (by omega) hR.2.2.1 hR.2.2.2 d (kk H locs ls hP hS hl)
theorem z_mmaxI {T : zX} {cc : ByteArray} {own : String} {fr lo cl ch : Nat} (hC : zOk T cc own fr lo cl ch) {σ : zSt} {pc : Nat} {lv : List (Nat × Value)} {st : List Value} {index : Nat} {x y : Int32} (hw : Cond.methodLink own index Lib.Math.max.name ∈ zT) (h1 : 1 ≤ fr) (h2 : (st.map fun v => v.category).sum + 13 ≤ lo) (d : decode cc pc = .ok (.invokestatic index, 3)) (kk : Z T σ (pc + 3) lv (.int (if x < y then y else x) :: st)) : Z T σ pc lv (.int y :: .int x :: st) := by
  obtain ⟨p, l, e, R, s, m, args, below, meth, cd, Q, nL, G, mk, A, cells, slots⟩ := T
  obtain ⟨hx, hb, hml, hown, hts, hE, hA, hR, hM⟩ := hC
  intro H locs ls hP hS hl
  exact va_mmax hx hb (hml.trans hl.1.symm) hown (hts _ hw) (hts _ zm_mmaxI_s) (hts _ zm_ini) (hts _ zm_mmaxI_c) (by omega) (by omega) hR.2.2.1 hR.2.2.2 d (kk H locs ls hP hS hl)
theorem z_mminI {T : zX} {cc : ByteArray} {own : String} {fr lo cl ch : Nat} (hC : zOk T cc own fr lo cl ch) {σ : zSt} {pc : Nat} {lv : List (Nat × Value)} {st : List Value} {index : Nat} {x y : Int32} (hw : Cond.methodLink own index Lib.Math.min.name ∈ zT) (h1 : 1 ≤ fr) (h2 : (st.map fun v => v.category).sum + 13 ≤ lo) (d : decode cc pc = .ok (.invokestatic index, 3)) (kk : Z T σ (pc + 3) lv (.int (if y < x then y else x) :: st)) : Z T σ pc lv (.int y :: .int x :: st) := by
  obtain ⟨p, l, e, R, s, m, args, below, meth, cd, Q, nL, G, mk, A, cells, slots⟩ := T
  obtain ⟨hx, hb, hml, hown, hts, hE, hA, hR, hM⟩ := hC
  intro H locs ls hP hS hl
  exact va_mmin hx hb (hml.trans hl.1.symm) hown (hts _ hw) (hts _ zm_mminI_s) (hts _ zm_ini) (hts _ zm_mminI_c) (by omega) (by omega) hR.2.2.1 hR.2.2.2 d (kk H locs ls hP hS hl)
end
section
def zRecv (T : zX) (a : Nat) (C : String) : Prop := match T with
  | (_, _, _, _, s, _, _, _, _, _, _, _, G, mq, A, _, _) => ∀ (H : Heap) (locs : List Loc) (σ : zSt), va_P G.1 vwCl (zW G (mq σ)) H → va_S A s.heap H locs → ∃ cell : Cell, H[a]? = some cell ∧ cell.vm.isStatics = false ∧ s.vm.findClass C = some cell.cls
abbrev zWV (y : MethodName) (cc : ByteArray) (ml : Nat) (rt : Option FieldType) (n : Nat) : Prop := Cond.instanceMethod y ∈ zT ∧ Cond.selects y.cls y y ∈ zT ∧ Cond.initialized y.cls ∈ zT ∧ Cond.code y cc ml rt ∈ zT ∧ zWd y n
abbrev zWS (y : MethodName) (cc : ByteArray) (ml : Nat) (rt : Option FieldType) (n : Nat) : Prop := Cond.static y ∈ zT ∧ Cond.initialized y.cls ∈ zT ∧ Cond.code y cc ml rt ∈ zT ∧ zWd y n
theorem zT_more {w : Cond} (h : w ∈ zT) : GoodIn zT (w :: zT) := fun x hx => by
  rcases List.mem_cons.mp hx with q | q
  · rw [q]; exact zT_good _ h
  · exact zT_good _ q
theorem zOk.hm {T : zX} {cc : ByteArray} {own : String} {fr lo cl ch : Nat} (h : zOk T cc own fr lo cl ch) : zM (zMk T) cl ch := by
  obtain ⟨p, l, e, R, s, m, args, below, meth, cd, Q, nL, G, mk, A, cells, slots⟩ := T
  exact h.2.2.2.2.2.2.2.2
section ZR
variable {p : Program} {l : Launch} {e : Env} {R : Room} {s : State} {m : MethodId} {args : Array Value} {below : List Frame} {meth : Method} {c : Code} {H : Heap} {locs : List Loc} {cells slots : Nat} {Q : State → Prop}
theorem z_run {G : zGt} {mk : zSt → zSt} {r : Option Value} {σ' : zSt} {a : Array Value} {A : Nat → Prop} {pc : Nat} {ls : Array Slot} {st0 rest : List Value} (hr : va_Run p l e R s m args below meth c H locs cells slots 0 0 (F0 m pc ls st0) rest (zQ G mk r σ' a) (zA G)) (hS : va_S A s.heap H locs) (hA : ∀ q, zA G q → A q)
    (kk : ∀ (H1 : Heap) (locs1 : List Loc), va_P G.1 vwCl (zW G (mk σ')) H1 → va_S A s.heap H1 locs1 → W p l e R s m args below meth c H1 locs1 cells slots Q (F0 m (pc + 3) ls (r.toList ++ rest))) : W p l e R s m args below meth c H locs cells slots Q (F0 m pc ls st0) := by
  intro T hT X
  obtain ⟨v, st₀, t, T', L, h0, X', hL, e1, e2, ⟨hv, hp, hz, hk⟩, st⟩ := hr T hT X
  cases hv
  rw [h0] at hz hk
  obtain ⟨t2, a1, b1⟩ := kk T'.heap (locs ++ L) (by rw [e1]; exact hp)
    ⟨Nat.le_trans hS.1 (by rw [e1]; exact hz), fun q h1 h2 => by rw [e1, hk q (Nat.lt_of_lt_of_le h1 hS.1) (fun z => h2 (hA q z))]; exact hS.2.1 q h1 h2, fun q hq => by
      rcases List.mem_append.mp hq with h | h
      · exact hS.2.2 q h
      · exact hA _ (hL q h)⟩ T' rfl X'
  exact ⟨t2, st t2 a1, b1⟩
end ZR
set_option maxHeartbeats 1000000 in
theorem z_cV0r {T : zX} {cc : ByteArray} {own : String} {fr lo cl ch : Nat} (hC : zOk T cc own fr lo cl ch) {σ : zSt} {pc : Nat} {lv : List (Nat × Value)} {st : List Value} {index : Nat} {y : MethodName} {yc : ByteArray} {ym : Nat} {yr : Option FieldType} {yf yl : Nat} {v : Value} {σ' : zSt} {a : Nat} (hM2 : zMet (zL T) (zGr T) (zMk T) y yc ym yr yf yl [.ref a] σ (some v) σ') (hrec : zRecv T a y.cls) (kw : zWV y yc ym yr 0) (hw : Cond.methodLink own index y ∈ zT) (hroom : yf + 1 ≤ fr ∧ 8 + (ym + 11) + yl ≤ lo) (hcat : (st.map fun v => v.category).sum ≤ 8) (d : decode cc pc = .ok (.invokevirtual index, 3)) (kk : Z T σ' (pc + 3) lv (v :: st)) : Z T σ pc lv (.ref a :: st) := by
  obtain ⟨p, l, e, R, s, m, args, below, meth, cd, Q, nL, G, mk, A, cells, slots⟩ := T
  obtain ⟨hx, hb, hml, hown, hts, hE, hA, hR, hM⟩ := hC
  intro H locs ls hP hS hl
  obtain ⟨k1, k2, k3, k4, k5⟩ := kw
  have hA2 : ∀ q, zA G q → A q := fun q ⟨k, hk, e⟩ => by rw [e]; exact hA k hk
  have hM2 : Met l y (.code y yc ym yr :: zT) { frames := yf, cells := 0, slots := 0, locals := yl } (va_Pc [.ref a] (fun U => va_P G.1 vwCl (zW G (mk σ)) U.heap ∧ zEnv G (zA G) U)) (zQ G mk (some v) σ') 0 0 (zA G) := hM2
  exact z_run (r := some v) (va_runV (p := p) (As := []) (rest := st) (C := y.cls) ⟨hx, hb, hml, hown, hts⟩ hM2 ⟨callB_of 0 hts (zT_more k4) rfl rfl rfl (hts _ k3) (hts _ hw) k5 ⟨by show yf + 1 ≤ _; omega, by show 8 + (ym + 11) + yl ≤ _; omega⟩, hts _ k1, hts _ k2⟩ ⟨fun a U g mk2 q => ⟨q.1, q.2.1, q.2.2.blind⟩, hrec H locs σ hP hS, fun U hU hW => ⟨rfl, by rw [hU]; exact hP, hE.call hS hA2 hU hW⟩⟩ rfl rfl hl.1 rfl (lv_room hcat) d ⟨hR.2.2.1, hR.2.2.2⟩) hS hA2 (fun H1 locs1 hP1 hS1 => kk H1 locs1 ls hP1 hS1 hl)
set_option maxHeartbeats 1000000 in
theorem z_cV0v {T : zX} {cc : ByteArray} {own : String} {fr lo cl ch : Nat} (hC : zOk T cc own fr lo cl ch) {σ : zSt} {pc : Nat} {lv : List (Nat × Value)} {st : List Value} {index : Nat} {y : MethodName} {yc : ByteArray} {ym : Nat} {yr : Option FieldType} {yf yl : Nat} {σ' : zSt} {a : Nat} (hM2 : zMet (zL T) (zGr T) (zMk T) y yc ym yr yf yl [.ref a] σ (none) σ') (hrec : zRecv T a y.cls) (kw : zWV y yc ym yr 0) (hw : Cond.methodLink own index y ∈ zT) (hroom : yf + 1 ≤ fr ∧ 8 + (ym + 11) + yl ≤ lo) (hcat : (st.map fun v => v.category).sum ≤ 8) (d : decode cc pc = .ok (.invokevirtual index, 3)) (kk : Z T σ' (pc + 3) lv (st)) : Z T σ pc lv (.ref a :: st) := by
  obtain ⟨p, l, e, R, s, m, args, below, meth, cd, Q, nL, G, mk, A, cells, slots⟩ := T
  obtain ⟨hx, hb, hml, hown, hts, hE, hA, hR, hM⟩ := hC
  intro H locs ls hP hS hl
  obtain ⟨k1, k2, k3, k4, k5⟩ := kw
  have hA2 : ∀ q, zA G q → A q := fun q ⟨k, hk, e⟩ => by rw [e]; exact hA k hk
  have hM2 : Met l y (.code y yc ym yr :: zT) { frames := yf, cells := 0, slots := 0, locals := yl } (va_Pc [.ref a] (fun U => va_P G.1 vwCl (zW G (mk σ)) U.heap ∧ zEnv G (zA G) U)) (zQ G mk (none) σ') 0 0 (zA G) := hM2
  exact z_run (r := none) (va_runV (p := p) (As := []) (rest := st) (C := y.cls) ⟨hx, hb, hml, hown, hts⟩ hM2 ⟨callB_of 0 hts (zT_more k4) rfl rfl rfl (hts _ k3) (hts _ hw) k5 ⟨by show yf + 1 ≤ _; omega, by show 8 + (ym + 11) + yl ≤ _; omega⟩, hts _ k1, hts _ k2⟩ ⟨fun a U g mk2 q => ⟨q.1, q.2.1, q.2.2.blind⟩, hrec H locs σ hP hS, fun U hU hW => ⟨rfl, by rw [hU]; exact hP, hE.call hS hA2 hU hW⟩⟩ rfl rfl hl.1 rfl (lv_room hcat) d ⟨hR.2.2.1, hR.2.2.2⟩) hS hA2 (fun H1 locs1 hP1 hS1 => kk H1 locs1 ls hP1 hS1 hl)
set_option maxHeartbeats 1000000 in
theorem z_cV1r {T : zX} {cc : ByteArray} {own : String} {fr lo cl ch : Nat} (hC : zOk T cc own fr lo cl ch) {σ : zSt} {pc : Nat} {lv : List (Nat × Value)} {st : List Value} {index : Nat} {y : MethodName} {yc : ByteArray} {ym : Nat} {yr : Option FieldType} {yf yl : Nat} {v : Value} {σ' : zSt} {a : Nat} {a1 : Value} (hM2 : zMet (zL T) (zGr T) (zMk T) y yc ym yr yf yl [.ref a, a1] σ (some v) σ') (hrec : zRecv T a y.cls) (kw : zWV y yc ym yr 1) (hw : Cond.methodLink own index y ∈ zT) (hroom : yf + 1 ≤ fr ∧ 8 + (ym + 11) + yl ≤ lo) (hcat : (st.map fun v => v.category).sum ≤ 8) (d : decode cc pc = .ok (.invokevirtual index, 3)) (kk : Z T σ' (pc + 3) lv (v :: st)) : Z T σ pc lv (a1 :: .ref a :: st) := by
  obtain ⟨p, l, e, R, s, m, args, below, meth, cd, Q, nL, G, mk, A, cells, slots⟩ := T
  obtain ⟨hx, hb, hml, hown, hts, hE, hA, hR, hM⟩ := hC
  intro H locs ls hP hS hl
  obtain ⟨k1, k2, k3, k4, k5⟩ := kw
  have hA2 : ∀ q, zA G q → A q := fun q ⟨k, hk, e⟩ => by rw [e]; exact hA k hk
  have hM2 : Met l y (.code y yc ym yr :: zT) { frames := yf, cells := 0, slots := 0, locals := yl } (va_Pc [.ref a, a1] (fun U => va_P G.1 vwCl (zW G (mk σ)) U.heap ∧ zEnv G (zA G) U)) (zQ G mk (some v) σ') 0 0 (zA G) := hM2
  exact z_run (r := some v) (va_runV (p := p) (As := [a1]) (rest := st) (C := y.cls) ⟨hx, hb, hml, hown, hts⟩ hM2 ⟨callB_of 1 hts (zT_more k4) rfl rfl rfl (hts _ k3) (hts _ hw) k5 ⟨by show yf + 1 ≤ _; omega, by show 8 + (ym + 11) + yl ≤ _; omega⟩, hts _ k1, hts _ k2⟩ ⟨fun a U g mk2 q => ⟨q.1, q.2.1, q.2.2.blind⟩, hrec H locs σ hP hS, fun U hU hW => ⟨rfl, by rw [hU]; exact hP, hE.call hS hA2 hU hW⟩⟩ rfl rfl hl.1 rfl (lv_room hcat) d ⟨hR.2.2.1, hR.2.2.2⟩) hS hA2 (fun H1 locs1 hP1 hS1 => kk H1 locs1 ls hP1 hS1 hl)
set_option maxHeartbeats 1000000 in
theorem z_cV1v {T : zX} {cc : ByteArray} {own : String} {fr lo cl ch : Nat} (hC : zOk T cc own fr lo cl ch) {σ : zSt} {pc : Nat} {lv : List (Nat × Value)} {st : List Value} {index : Nat} {y : MethodName} {yc : ByteArray} {ym : Nat} {yr : Option FieldType} {yf yl : Nat} {σ' : zSt} {a : Nat} {a1 : Value} (hM2 : zMet (zL T) (zGr T) (zMk T) y yc ym yr yf yl [.ref a, a1] σ (none) σ') (hrec : zRecv T a y.cls) (kw : zWV y yc ym yr 1) (hw : Cond.methodLink own index y ∈ zT) (hroom : yf + 1 ≤ fr ∧ 8 + (ym + 11) + yl ≤ lo) (hcat : (st.map fun v => v.category).sum ≤ 8) (d : decode cc pc = .ok (.invokevirtual index, 3)) (kk : Z T σ' (pc + 3) lv (st)) : Z T σ pc lv (a1 :: .ref a :: st) := by
  obtain ⟨p, l, e, R, s, m, args, below, meth, cd, Q, nL, G, mk, A, cells, slots⟩ := T
  obtain ⟨hx, hb, hml, hown, hts, hE, hA, hR, hM⟩ := hC
  intro H locs ls hP hS hl
  obtain ⟨k1, k2, k3, k4, k5⟩ := kw
  have hA2 : ∀ q, zA G q → A q := fun q ⟨k, hk, e⟩ => by rw [e]; exact hA k hk
  have hM2 : Met l y (.code y yc ym yr :: zT) { frames := yf, cells := 0, slots := 0, locals := yl } (va_Pc [.ref a, a1] (fun U => va_P G.1 vwCl (zW G (mk σ)) U.heap ∧ zEnv G (zA G) U)) (zQ G mk (none) σ') 0 0 (zA G) := hM2
  exact z_run (r := none) (va_runV (p := p) (As := [a1]) (rest := st) (C := y.cls) ⟨hx, hb, hml, hown, hts⟩ hM2 ⟨callB_of 1 hts (zT_more k4) rfl rfl rfl (hts _ k3) (hts _ hw) k5 ⟨by show yf + 1 ≤ _; omega, by show 8 + (ym + 11) + yl ≤ _; omega⟩, hts _ k1, hts _ k2⟩ ⟨fun a U g mk2 q => ⟨q.1, q.2.1, q.2.2.blind⟩, hrec H locs σ hP hS, fun U hU hW => ⟨rfl, by rw [hU]; exact hP, hE.call hS hA2 hU hW⟩⟩ rfl rfl hl.1 rfl (lv_room hcat) d ⟨hR.2.2.1, hR.2.2.2⟩) hS hA2 (fun H1 locs1 hP1 hS1 => kk H1 locs1 ls hP1 hS1 hl)
set_option maxHeartbeats 1000000 in
theorem z_cS1r {T : zX} {cc : ByteArray} {own : String} {fr lo cl ch : Nat} (hC : zOk T cc own fr lo cl ch) {σ : zSt} {pc : Nat} {lv : List (Nat × Value)} {st : List Value} {index : Nat} {y : MethodName} {yc : ByteArray} {ym : Nat} {yr : Option FieldType} {yf yl : Nat} {v : Value} {σ' : zSt} {a1 : Value} (hM2 : zMet (zL T) (zGr T) (zMk T) y yc ym yr yf yl [a1] σ (some v) σ') (kw : zWS y yc ym yr 1) (hw : Cond.methodLink own index y ∈ zT) (hroom : yf + 1 ≤ fr ∧ 8 + (ym + 11) + yl ≤ lo) (hcat : (st.map fun v => v.category).sum ≤ 8) (d : decode cc pc = .ok (.invokestatic index, 3)) (kk : Z T σ' (pc + 3) lv (v :: st)) : Z T σ pc lv (a1 :: st) := by
  obtain ⟨p, l, e, R, s, m, args, below, meth, cd, Q, nL, G, mk, A, cells, slots⟩ := T
  obtain ⟨hx, hb, hml, hown, hts, hE, hA, hR, hM⟩ := hC
  intro H locs ls hP hS hl
  obtain ⟨k1, k3, k4, k5⟩ := kw
  have hA2 : ∀ q, zA G q → A q := fun q ⟨k, hk, e⟩ => by rw [e]; exact hA k hk
  have hM2 : Met l y (.code y yc ym yr :: zT) { frames := yf, cells := 0, slots := 0, locals := yl } (va_Pc [a1] (fun U => va_P G.1 vwCl (zW G (mk σ)) U.heap ∧ zEnv G (zA G) U)) (zQ G mk (some v) σ') 0 0 (zA G) := hM2
  exact z_run (r := some v) (va_runS (p := p) (As := [a1]) (rest := st) ⟨hx, hb, hml, hown, hts⟩ hM2 ⟨callB_of 1 hts (zT_more k4) rfl rfl rfl (hts _ k3) (hts _ hw) k5 ⟨by show yf + 1 ≤ _; omega, by show 8 + (ym + 11) + yl ≤ _; omega⟩, hts _ k1⟩ ⟨fun a U g mk2 q => ⟨q.1, q.2.1, q.2.2.blind⟩, fun U hU hW => ⟨rfl, by rw [hU]; exact hP, hE.call hS hA2 hU hW⟩⟩ rfl rfl hl.1 rfl (lv_room hcat) d ⟨hR.2.2.1, hR.2.2.2⟩) hS hA2 (fun H1 locs1 hP1 hS1 => kk H1 locs1 ls hP1 hS1 hl)
set_option maxHeartbeats 1000000 in
theorem z_cS1v {T : zX} {cc : ByteArray} {own : String} {fr lo cl ch : Nat} (hC : zOk T cc own fr lo cl ch) {σ : zSt} {pc : Nat} {lv : List (Nat × Value)} {st : List Value} {index : Nat} {y : MethodName} {yc : ByteArray} {ym : Nat} {yr : Option FieldType} {yf yl : Nat} {σ' : zSt} {a1 : Value} (hM2 : zMet (zL T) (zGr T) (zMk T) y yc ym yr yf yl [a1] σ (none) σ') (kw : zWS y yc ym yr 1) (hw : Cond.methodLink own index y ∈ zT) (hroom : yf + 1 ≤ fr ∧ 8 + (ym + 11) + yl ≤ lo) (hcat : (st.map fun v => v.category).sum ≤ 8) (d : decode cc pc = .ok (.invokestatic index, 3)) (kk : Z T σ' (pc + 3) lv (st)) : Z T σ pc lv (a1 :: st) := by
  obtain ⟨p, l, e, R, s, m, args, below, meth, cd, Q, nL, G, mk, A, cells, slots⟩ := T
  obtain ⟨hx, hb, hml, hown, hts, hE, hA, hR, hM⟩ := hC
  intro H locs ls hP hS hl
  obtain ⟨k1, k3, k4, k5⟩ := kw
  have hA2 : ∀ q, zA G q → A q := fun q ⟨k, hk, e⟩ => by rw [e]; exact hA k hk
  have hM2 : Met l y (.code y yc ym yr :: zT) { frames := yf, cells := 0, slots := 0, locals := yl } (va_Pc [a1] (fun U => va_P G.1 vwCl (zW G (mk σ)) U.heap ∧ zEnv G (zA G) U)) (zQ G mk (none) σ') 0 0 (zA G) := hM2
  exact z_run (r := none) (va_runS (p := p) (As := [a1]) (rest := st) ⟨hx, hb, hml, hown, hts⟩ hM2 ⟨callB_of 1 hts (zT_more k4) rfl rfl rfl (hts _ k3) (hts _ hw) k5 ⟨by show yf + 1 ≤ _; omega, by show 8 + (ym + 11) + yl ≤ _; omega⟩, hts _ k1⟩ ⟨fun a U g mk2 q => ⟨q.1, q.2.1, q.2.2.blind⟩, fun U hU hW => ⟨rfl, by rw [hU]; exact hP, hE.call hS hA2 hU hW⟩⟩ rfl rfl hl.1 rfl (lv_room hcat) d ⟨hR.2.2.1, hR.2.2.2⟩) hS hA2 (fun H1 locs1 hP1 hS1 => kk H1 locs1 ls hP1 hS1 hl)
set_option maxHeartbeats 1000000 in
theorem z_cV2r {T : zX} {cc : ByteArray} {own : String} {fr lo cl ch : Nat} (hC : zOk T cc own fr lo cl ch) {σ : zSt} {pc : Nat} {lv : List (Nat × Value)} {st : List Value} {index : Nat} {y : MethodName} {yc : ByteArray} {ym : Nat} {yr : Option FieldType} {yf yl : Nat} {v : Value} {σ' : zSt} {a : Nat} {a1 a2 : Value} (hM2 : zMet (zL T) (zGr T) (zMk T) y yc ym yr yf yl [.ref a, a1, a2] σ (some v) σ') (hrec : zRecv T a y.cls) (kw : zWV y yc ym yr 2) (hw : Cond.methodLink own index y ∈ zT) (hroom : yf + 1 ≤ fr ∧ 8 + (ym + 11) + yl ≤ lo) (hcat : (st.map fun v => v.category).sum ≤ 8) (d : decode cc pc = .ok (.invokevirtual index, 3)) (kk : Z T σ' (pc + 3) lv (v :: st)) : Z T σ pc lv (a2 :: a1 :: .ref a :: st) := by
  obtain ⟨p, l, e, R, s, m, args, below, meth, cd, Q, nL, G, mk, A, cells, slots⟩ := T
  obtain ⟨hx, hb, hml, hown, hts, hE, hA, hR, hM⟩ := hC
  intro H locs ls hP hS hl
  obtain ⟨k1, k2, k3, k4, k5⟩ := kw
  have hA2 : ∀ q, zA G q → A q := fun q ⟨k, hk, e⟩ => by rw [e]; exact hA k hk
  have hM2 : Met l y (.code y yc ym yr :: zT) { frames := yf, cells := 0, slots := 0, locals := yl } (va_Pc [.ref a, a1, a2] (fun U => va_P G.1 vwCl (zW G (mk σ)) U.heap ∧ zEnv G (zA G) U)) (zQ G mk (some v) σ') 0 0 (zA G) := hM2
  exact z_run (r := some v) (va_runV (p := p) (As := [a1, a2]) (rest := st) (C := y.cls) ⟨hx, hb, hml, hown, hts⟩ hM2 ⟨callB_of 2 hts (zT_more k4) rfl rfl rfl (hts _ k3) (hts _ hw) k5 ⟨by show yf + 1 ≤ _; omega, by show 8 + (ym + 11) + yl ≤ _; omega⟩, hts _ k1, hts _ k2⟩ ⟨fun a U g mk2 q => ⟨q.1, q.2.1, q.2.2.blind⟩, hrec H locs σ hP hS, fun U hU hW => ⟨rfl, by rw [hU]; exact hP, hE.call hS hA2 hU hW⟩⟩ rfl rfl hl.1 rfl (lv_room hcat) d ⟨hR.2.2.1, hR.2.2.2⟩) hS hA2 (fun H1 locs1 hP1 hS1 => kk H1 locs1 ls hP1 hS1 hl)
set_option maxHeartbeats 1000000 in
theorem z_cV2v {T : zX} {cc : ByteArray} {own : String} {fr lo cl ch : Nat} (hC : zOk T cc own fr lo cl ch) {σ : zSt} {pc : Nat} {lv : List (Nat × Value)} {st : List Value} {index : Nat} {y : MethodName} {yc : ByteArray} {ym : Nat} {yr : Option FieldType} {yf yl : Nat} {σ' : zSt} {a : Nat} {a1 a2 : Value} (hM2 : zMet (zL T) (zGr T) (zMk T) y yc ym yr yf yl [.ref a, a1, a2] σ (none) σ') (hrec : zRecv T a y.cls) (kw : zWV y yc ym yr 2) (hw : Cond.methodLink own index y ∈ zT) (hroom : yf + 1 ≤ fr ∧ 8 + (ym + 11) + yl ≤ lo) (hcat : (st.map fun v => v.category).sum ≤ 8) (d : decode cc pc = .ok (.invokevirtual index, 3)) (kk : Z T σ' (pc + 3) lv (st)) : Z T σ pc lv (a2 :: a1 :: .ref a :: st) := by
  obtain ⟨p, l, e, R, s, m, args, below, meth, cd, Q, nL, G, mk, A, cells, slots⟩ := T
  obtain ⟨hx, hb, hml, hown, hts, hE, hA, hR, hM⟩ := hC
  intro H locs ls hP hS hl
  obtain ⟨k1, k2, k3, k4, k5⟩ := kw
  have hA2 : ∀ q, zA G q → A q := fun q ⟨k, hk, e⟩ => by rw [e]; exact hA k hk
  have hM2 : Met l y (.code y yc ym yr :: zT) { frames := yf, cells := 0, slots := 0, locals := yl } (va_Pc [.ref a, a1, a2] (fun U => va_P G.1 vwCl (zW G (mk σ)) U.heap ∧ zEnv G (zA G) U)) (zQ G mk (none) σ') 0 0 (zA G) := hM2
  exact z_run (r := none) (va_runV (p := p) (As := [a1, a2]) (rest := st) (C := y.cls) ⟨hx, hb, hml, hown, hts⟩ hM2 ⟨callB_of 2 hts (zT_more k4) rfl rfl rfl (hts _ k3) (hts _ hw) k5 ⟨by show yf + 1 ≤ _; omega, by show 8 + (ym + 11) + yl ≤ _; omega⟩, hts _ k1, hts _ k2⟩ ⟨fun a U g mk2 q => ⟨q.1, q.2.1, q.2.2.blind⟩, hrec H locs σ hP hS, fun U hU hW => ⟨rfl, by rw [hU]; exact hP, hE.call hS hA2 hU hW⟩⟩ rfl rfl hl.1 rfl (lv_room hcat) d ⟨hR.2.2.1, hR.2.2.2⟩) hS hA2 (fun H1 locs1 hP1 hS1 => kk H1 locs1 ls hP1 hS1 hl)
set_option maxHeartbeats 1000000 in
theorem z_cS2r {T : zX} {cc : ByteArray} {own : String} {fr lo cl ch : Nat} (hC : zOk T cc own fr lo cl ch) {σ : zSt} {pc : Nat} {lv : List (Nat × Value)} {st : List Value} {index : Nat} {y : MethodName} {yc : ByteArray} {ym : Nat} {yr : Option FieldType} {yf yl : Nat} {v : Value} {σ' : zSt} {a1 a2 : Value} (hM2 : zMet (zL T) (zGr T) (zMk T) y yc ym yr yf yl [a1, a2] σ (some v) σ') (kw : zWS y yc ym yr 2) (hw : Cond.methodLink own index y ∈ zT) (hroom : yf + 1 ≤ fr ∧ 8 + (ym + 11) + yl ≤ lo) (hcat : (st.map fun v => v.category).sum ≤ 8) (d : decode cc pc = .ok (.invokestatic index, 3)) (kk : Z T σ' (pc + 3) lv (v :: st)) : Z T σ pc lv (a2 :: a1 :: st) := by
  obtain ⟨p, l, e, R, s, m, args, below, meth, cd, Q, nL, G, mk, A, cells, slots⟩ := T
  obtain ⟨hx, hb, hml, hown, hts, hE, hA, hR, hM⟩ := hC
  intro H locs ls hP hS hl
  obtain ⟨k1, k3, k4, k5⟩ := kw
  have hA2 : ∀ q, zA G q → A q := fun q ⟨k, hk, e⟩ => by rw [e]; exact hA k hk
  have hM2 : Met l y (.code y yc ym yr :: zT) { frames := yf, cells := 0, slots := 0, locals := yl } (va_Pc [a1, a2] (fun U => va_P G.1 vwCl (zW G (mk σ)) U.heap ∧ zEnv G (zA G) U)) (zQ G mk (some v) σ') 0 0 (zA G) := hM2
  exact z_run (r := some v) (va_runS (p := p) (As := [a1, a2]) (rest := st) ⟨hx, hb, hml, hown, hts⟩ hM2 ⟨callB_of 2 hts (zT_more k4) rfl rfl rfl (hts _ k3) (hts _ hw) k5 ⟨by show yf + 1 ≤ _; omega, by show 8 + (ym + 11) + yl ≤ _; omega⟩, hts _ k1⟩ ⟨fun a U g mk2 q => ⟨q.1, q.2.1, q.2.2.blind⟩, fun U hU hW => ⟨rfl, by rw [hU]; exact hP, hE.call hS hA2 hU hW⟩⟩ rfl rfl hl.1 rfl (lv_room hcat) d ⟨hR.2.2.1, hR.2.2.2⟩) hS hA2 (fun H1 locs1 hP1 hS1 => kk H1 locs1 ls hP1 hS1 hl)
set_option maxHeartbeats 1000000 in
theorem z_cS2v {T : zX} {cc : ByteArray} {own : String} {fr lo cl ch : Nat} (hC : zOk T cc own fr lo cl ch) {σ : zSt} {pc : Nat} {lv : List (Nat × Value)} {st : List Value} {index : Nat} {y : MethodName} {yc : ByteArray} {ym : Nat} {yr : Option FieldType} {yf yl : Nat} {σ' : zSt} {a1 a2 : Value} (hM2 : zMet (zL T) (zGr T) (zMk T) y yc ym yr yf yl [a1, a2] σ (none) σ') (kw : zWS y yc ym yr 2) (hw : Cond.methodLink own index y ∈ zT) (hroom : yf + 1 ≤ fr ∧ 8 + (ym + 11) + yl ≤ lo) (hcat : (st.map fun v => v.category).sum ≤ 8) (d : decode cc pc = .ok (.invokestatic index, 3)) (kk : Z T σ' (pc + 3) lv (st)) : Z T σ pc lv (a2 :: a1 :: st) := by
  obtain ⟨p, l, e, R, s, m, args, below, meth, cd, Q, nL, G, mk, A, cells, slots⟩ := T
  obtain ⟨hx, hb, hml, hown, hts, hE, hA, hR, hM⟩ := hC
  intro H locs ls hP hS hl
  obtain ⟨k1, k3, k4, k5⟩ := kw
  have hA2 : ∀ q, zA G q → A q := fun q ⟨k, hk, e⟩ => by rw [e]; exact hA k hk
  have hM2 : Met l y (.code y yc ym yr :: zT) { frames := yf, cells := 0, slots := 0, locals := yl } (va_Pc [a1, a2] (fun U => va_P G.1 vwCl (zW G (mk σ)) U.heap ∧ zEnv G (zA G) U)) (zQ G mk (none) σ') 0 0 (zA G) := hM2
  exact z_run (r := none) (va_runS (p := p) (As := [a1, a2]) (rest := st) ⟨hx, hb, hml, hown, hts⟩ hM2 ⟨callB_of 2 hts (zT_more k4) rfl rfl rfl (hts _ k3) (hts _ hw) k5 ⟨by show yf + 1 ≤ _; omega, by show 8 + (ym + 11) + yl ≤ _; omega⟩, hts _ k1⟩ ⟨fun a U g mk2 q => ⟨q.1, q.2.1, q.2.2.blind⟩, fun U hU hW => ⟨rfl, by rw [hU]; exact hP, hE.call hS hA2 hU hW⟩⟩ rfl rfl hl.1 rfl (lv_room hcat) d ⟨hR.2.2.1, hR.2.2.2⟩) hS hA2 (fun H1 locs1 hP1 hS1 => kk H1 locs1 ls hP1 hS1 hl)
set_option maxHeartbeats 1000000 in
theorem z_cV3r {T : zX} {cc : ByteArray} {own : String} {fr lo cl ch : Nat} (hC : zOk T cc own fr lo cl ch) {σ : zSt} {pc : Nat} {lv : List (Nat × Value)} {st : List Value} {index : Nat} {y : MethodName} {yc : ByteArray} {ym : Nat} {yr : Option FieldType} {yf yl : Nat} {v : Value} {σ' : zSt} {a : Nat} {a1 a2 a3 : Value} (hM2 : zMet (zL T) (zGr T) (zMk T) y yc ym yr yf yl [.ref a, a1, a2, a3] σ (some v) σ') (hrec : zRecv T a y.cls) (kw : zWV y yc ym yr 3) (hw : Cond.methodLink own index y ∈ zT) (hroom : yf + 1 ≤ fr ∧ 8 + (ym + 11) + yl ≤ lo) (hcat : (st.map fun v => v.category).sum ≤ 8) (d : decode cc pc = .ok (.invokevirtual index, 3)) (kk : Z T σ' (pc + 3) lv (v :: st)) : Z T σ pc lv (a3 :: a2 :: a1 :: .ref a :: st) := by
  obtain ⟨p, l, e, R, s, m, args, below, meth, cd, Q, nL, G, mk, A, cells, slots⟩ := T
  obtain ⟨hx, hb, hml, hown, hts, hE, hA, hR, hM⟩ := hC
  intro H locs ls hP hS hl
  obtain ⟨k1, k2, k3, k4, k5⟩ := kw
  have hA2 : ∀ q, zA G q → A q := fun q ⟨k, hk, e⟩ => by rw [e]; exact hA k hk
  have hM2 : Met l y (.code y yc ym yr :: zT) { frames := yf, cells := 0, slots := 0, locals := yl } (va_Pc [.ref a, a1, a2, a3] (fun U => va_P G.1 vwCl (zW G (mk σ)) U.heap ∧ zEnv G (zA G) U)) (zQ G mk (some v) σ') 0 0 (zA G) := hM2
  exact z_run (r := some v) (va_runV (p := p) (As := [a1, a2, a3]) (rest := st) (C := y.cls) ⟨hx, hb, hml, hown, hts⟩ hM2 ⟨callB_of 3 hts (zT_more k4) rfl rfl rfl (hts _ k3) (hts _ hw) k5 ⟨by show yf + 1 ≤ _; omega, by show 8 + (ym + 11) + yl ≤ _; omega⟩, hts _ k1, hts _ k2⟩ ⟨fun a U g mk2 q => ⟨q.1, q.2.1, q.2.2.blind⟩, hrec H locs σ hP hS, fun U hU hW => ⟨rfl, by rw [hU]; exact hP, hE.call hS hA2 hU hW⟩⟩ rfl rfl hl.1 rfl (lv_room hcat) d ⟨hR.2.2.1, hR.2.2.2⟩) hS hA2 (fun H1 locs1 hP1 hS1 => kk H1 locs1 ls hP1 hS1 hl)
set_option maxHeartbeats 1000000 in
theorem z_cV3v {T : zX} {cc : ByteArray} {own : String} {fr lo cl ch : Nat} (hC : zOk T cc own fr lo cl ch) {σ : zSt} {pc : Nat} {lv : List (Nat × Value)} {st : List Value} {index : Nat} {y : MethodName} {yc : ByteArray} {ym : Nat} {yr : Option FieldType} {yf yl : Nat} {σ' : zSt} {a : Nat} {a1 a2 a3 : Value} (hM2 : zMet (zL T) (zGr T) (zMk T) y yc ym yr yf yl [.ref a, a1, a2, a3] σ (none) σ') (hrec : zRecv T a y.cls) (kw : zWV y yc ym yr 3) (hw : Cond.methodLink own index y ∈ zT) (hroom : yf + 1 ≤ fr ∧ 8 + (ym + 11) + yl ≤ lo) (hcat : (st.map fun v => v.category).sum ≤ 8) (d : decode cc pc = .ok (.invokevirtual index, 3)) (kk : Z T σ' (pc + 3) lv (st)) : Z T σ pc lv (a3 :: a2 :: a1 :: .ref a :: st) := by
  obtain ⟨p, l, e, R, s, m, args, below, meth, cd, Q, nL, G, mk, A, cells, slots⟩ := T
  obtain ⟨hx, hb, hml, hown, hts, hE, hA, hR, hM⟩ := hC
  intro H locs ls hP hS hl
  obtain ⟨k1, k2, k3, k4, k5⟩ := kw
  have hA2 : ∀ q, zA G q → A q := fun q ⟨k, hk, e⟩ => by rw [e]; exact hA k hk
  have hM2 : Met l y (.code y yc ym yr :: zT) { frames := yf, cells := 0, slots := 0, locals := yl } (va_Pc [.ref a, a1, a2, a3] (fun U => va_P G.1 vwCl (zW G (mk σ)) U.heap ∧ zEnv G (zA G) U)) (zQ G mk (none) σ') 0 0 (zA G) := hM2
  exact z_run (r := none) (va_runV (p := p) (As := [a1, a2, a3]) (rest := st) (C := y.cls) ⟨hx, hb, hml, hown, hts⟩ hM2 ⟨callB_of 3 hts (zT_more k4) rfl rfl rfl (hts _ k3) (hts _ hw) k5 ⟨by show yf + 1 ≤ _; omega, by show 8 + (ym + 11) + yl ≤ _; omega⟩, hts _ k1, hts _ k2⟩ ⟨fun a U g mk2 q => ⟨q.1, q.2.1, q.2.2.blind⟩, hrec H locs σ hP hS, fun U hU hW => ⟨rfl, by rw [hU]; exact hP, hE.call hS hA2 hU hW⟩⟩ rfl rfl hl.1 rfl (lv_room hcat) d ⟨hR.2.2.1, hR.2.2.2⟩) hS hA2 (fun H1 locs1 hP1 hS1 => kk H1 locs1 ls hP1 hS1 hl)
set_option maxHeartbeats 1000000 in
theorem z_cS3r {T : zX} {cc : ByteArray} {own : String} {fr lo cl ch : Nat} (hC : zOk T cc own fr lo cl ch) {σ : zSt} {pc : Nat} {lv : List (Nat × Value)} {st : List Value} {index : Nat} {y : MethodName} {yc : ByteArray} {ym : Nat} {yr : Option FieldType} {yf yl : Nat} {v : Value} {σ' : zSt} {a1 a2 a3 : Value} (hM2 : zMet (zL T) (zGr T) (zMk T) y yc ym yr yf yl [a1, a2, a3] σ (some v) σ') (kw : zWS y yc ym yr 3) (hw : Cond.methodLink own index y ∈ zT) (hroom : yf + 1 ≤ fr ∧ 8 + (ym + 11) + yl ≤ lo) (hcat : (st.map fun v => v.category).sum ≤ 8) (d : decode cc pc = .ok (.invokestatic index, 3)) (kk : Z T σ' (pc + 3) lv (v :: st)) : Z T σ pc lv (a3 :: a2 :: a1 :: st) := by
  obtain ⟨p, l, e, R, s, m, args, below, meth, cd, Q, nL, G, mk, A, cells, slots⟩ := T
  obtain ⟨hx, hb, hml, hown, hts, hE, hA, hR, hM⟩ := hC
  intro H locs ls hP hS hl
  obtain ⟨k1, k3, k4, k5⟩ := kw
  have hA2 : ∀ q, zA G q → A q := fun q ⟨k, hk, e⟩ => by rw [e]; exact hA k hk
  have hM2 : Met l y (.code y yc ym yr :: zT) { frames := yf, cells := 0, slots := 0, locals := yl } (va_Pc [a1, a2, a3] (fun U => va_P G.1 vwCl (zW G (mk σ)) U.heap ∧ zEnv G (zA G) U)) (zQ G mk (some v) σ') 0 0 (zA G) := hM2
  exact z_run (r := some v) (va_runS (p := p) (As := [a1, a2, a3]) (rest := st) ⟨hx, hb, hml, hown, hts⟩ hM2 ⟨callB_of 3 hts (zT_more k4) rfl rfl rfl (hts _ k3) (hts _ hw) k5 ⟨by show yf + 1 ≤ _; omega, by show 8 + (ym + 11) + yl ≤ _; omega⟩, hts _ k1⟩ ⟨fun a U g mk2 q => ⟨q.1, q.2.1, q.2.2.blind⟩, fun U hU hW => ⟨rfl, by rw [hU]; exact hP, hE.call hS hA2 hU hW⟩⟩ rfl rfl hl.1 rfl (lv_room hcat) d ⟨hR.2.2.1, hR.2.2.2⟩) hS hA2 (fun H1 locs1 hP1 hS1 => kk H1 locs1 ls hP1 hS1 hl)
set_option maxHeartbeats 1000000 in
theorem z_cS3v {T : zX} {cc : ByteArray} {own : String} {fr lo cl ch : Nat} (hC : zOk T cc own fr lo cl ch) {σ : zSt} {pc : Nat} {lv : List (Nat × Value)} {st : List Value} {index : Nat} {y : MethodName} {yc : ByteArray} {ym : Nat} {yr : Option FieldType} {yf yl : Nat} {σ' : zSt} {a1 a2 a3 : Value} (hM2 : zMet (zL T) (zGr T) (zMk T) y yc ym yr yf yl [a1, a2, a3] σ (none) σ') (kw : zWS y yc ym yr 3) (hw : Cond.methodLink own index y ∈ zT) (hroom : yf + 1 ≤ fr ∧ 8 + (ym + 11) + yl ≤ lo) (hcat : (st.map fun v => v.category).sum ≤ 8) (d : decode cc pc = .ok (.invokestatic index, 3)) (kk : Z T σ' (pc + 3) lv (st)) : Z T σ pc lv (a3 :: a2 :: a1 :: st) := by
  obtain ⟨p, l, e, R, s, m, args, below, meth, cd, Q, nL, G, mk, A, cells, slots⟩ := T
  obtain ⟨hx, hb, hml, hown, hts, hE, hA, hR, hM⟩ := hC
  intro H locs ls hP hS hl
  obtain ⟨k1, k3, k4, k5⟩ := kw
  have hA2 : ∀ q, zA G q → A q := fun q ⟨k, hk, e⟩ => by rw [e]; exact hA k hk
  have hM2 : Met l y (.code y yc ym yr :: zT) { frames := yf, cells := 0, slots := 0, locals := yl } (va_Pc [a1, a2, a3] (fun U => va_P G.1 vwCl (zW G (mk σ)) U.heap ∧ zEnv G (zA G) U)) (zQ G mk (none) σ') 0 0 (zA G) := hM2
  exact z_run (r := none) (va_runS (p := p) (As := [a1, a2, a3]) (rest := st) ⟨hx, hb, hml, hown, hts⟩ hM2 ⟨callB_of 3 hts (zT_more k4) rfl rfl rfl (hts _ k3) (hts _ hw) k5 ⟨by show yf + 1 ≤ _; omega, by show 8 + (ym + 11) + yl ≤ _; omega⟩, hts _ k1⟩ ⟨fun a U g mk2 q => ⟨q.1, q.2.1, q.2.2.blind⟩, fun U hU hW => ⟨rfl, by rw [hU]; exact hP, hE.call hS hA2 hU hW⟩⟩ rfl rfl hl.1 rfl (lv_room hcat) d ⟨hR.2.2.1, hR.2.2.2⟩) hS hA2 (fun H1 locs1 hP1 hS1 => kk H1 locs1 ls hP1 hS1 hl)
set_option maxHeartbeats 1000000 in
theorem z_cV4r {T : zX} {cc : ByteArray} {own : String} {fr lo cl ch : Nat} (hC : zOk T cc own fr lo cl ch) {σ : zSt} {pc : Nat} {lv : List (Nat × Value)} {st : List Value} {index : Nat} {y : MethodName} {yc : ByteArray} {ym : Nat} {yr : Option FieldType} {yf yl : Nat} {v : Value} {σ' : zSt} {a : Nat} {a1 a2 a3 a4 : Value} (hM2 : zMet (zL T) (zGr T) (zMk T) y yc ym yr yf yl [.ref a, a1, a2, a3, a4] σ (some v) σ') (hrec : zRecv T a y.cls) (kw : zWV y yc ym yr 4) (hw : Cond.methodLink own index y ∈ zT) (hroom : yf + 1 ≤ fr ∧ 8 + (ym + 11) + yl ≤ lo) (hcat : (st.map fun v => v.category).sum ≤ 8) (d : decode cc pc = .ok (.invokevirtual index, 3)) (kk : Z T σ' (pc + 3) lv (v :: st)) : Z T σ pc lv (a4 :: a3 :: a2 :: a1 :: .ref a :: st) := by
  obtain ⟨p, l, e, R, s, m, args, below, meth, cd, Q, nL, G, mk, A, cells, slots⟩ := T
  obtain ⟨hx, hb, hml, hown, hts, hE, hA, hR, hM⟩ := hC
  intro H locs ls hP hS hl
  obtain ⟨k1, k2, k3, k4, k5⟩ := kw
  have hA2 : ∀ q, zA G q → A q := fun q ⟨k, hk, e⟩ => by rw [e]; exact hA k hk
  have hM2 : Met l y (.code y yc ym yr :: zT) { frames := yf, cells := 0, slots := 0, locals := yl } (va_Pc [.ref a, a1, a2, a3, a4] (fun U => va_P G.1 vwCl (zW G (mk σ)) U.heap ∧ zEnv G (zA G) U)) (zQ G mk (some v) σ') 0 0 (zA G) := hM2
  exact z_run (r := some v) (va_runV (p := p) (As := [a1, a2, a3, a4]) (rest := st) (C := y.cls) ⟨hx, hb, hml, hown, hts⟩ hM2 ⟨callB_of 4 hts (zT_more k4) rfl rfl rfl (hts _ k3) (hts _ hw) k5 ⟨by show yf + 1 ≤ _; omega, by show 8 + (ym + 11) + yl ≤ _; omega⟩, hts _ k1, hts _ k2⟩ ⟨fun a U g mk2 q => ⟨q.1, q.2.1, q.2.2.blind⟩, hrec H locs σ hP hS, fun U hU hW => ⟨rfl, by rw [hU]; exact hP, hE.call hS hA2 hU hW⟩⟩ rfl rfl hl.1 rfl (lv_room hcat) d ⟨hR.2.2.1, hR.2.2.2⟩) hS hA2 (fun H1 locs1 hP1 hS1 => kk H1 locs1 ls hP1 hS1 hl)
set_option maxHeartbeats 1000000 in
theorem z_cV4v {T : zX} {cc : ByteArray} {own : String} {fr lo cl ch : Nat} (hC : zOk T cc own fr lo cl ch) {σ : zSt} {pc : Nat} {lv : List (Nat × Value)} {st : List Value} {index : Nat} {y : MethodName} {yc : ByteArray} {ym : Nat} {yr : Option FieldType} {yf yl : Nat} {σ' : zSt} {a : Nat} {a1 a2 a3 a4 : Value} (hM2 : zMet (zL T) (zGr T) (zMk T) y yc ym yr yf yl [.ref a, a1, a2, a3, a4] σ (none) σ') (hrec : zRecv T a y.cls) (kw : zWV y yc ym yr 4) (hw : Cond.methodLink own index y ∈ zT) (hroom : yf + 1 ≤ fr ∧ 8 + (ym + 11) + yl ≤ lo) (hcat : (st.map fun v => v.category).sum ≤ 8) (d : decode cc pc = .ok (.invokevirtual index, 3)) (kk : Z T σ' (pc + 3) lv (st)) : Z T σ pc lv (a4 :: a3 :: a2 :: a1 :: .ref a :: st) := by
  obtain ⟨p, l, e, R, s, m, args, below, meth, cd, Q, nL, G, mk, A, cells, slots⟩ := T
  obtain ⟨hx, hb, hml, hown, hts, hE, hA, hR, hM⟩ := hC
  intro H locs ls hP hS hl
  obtain ⟨k1, k2, k3, k4, k5⟩ := kw
  have hA2 : ∀ q, zA G q → A q := fun q ⟨k, hk, e⟩ => by rw [e]; exact hA k hk
  have hM2 : Met l y (.code y yc ym yr :: zT) { frames := yf, cells := 0, slots := 0, locals := yl } (va_Pc [.ref a, a1, a2, a3, a4] (fun U => va_P G.1 vwCl (zW G (mk σ)) U.heap ∧ zEnv G (zA G) U)) (zQ G mk (none) σ') 0 0 (zA G) := hM2
  exact z_run (r := none) (va_runV (p := p) (As := [a1, a2, a3, a4]) (rest := st) (C := y.cls) ⟨hx, hb, hml, hown, hts⟩ hM2 ⟨callB_of 4 hts (zT_more k4) rfl rfl rfl (hts _ k3) (hts _ hw) k5 ⟨by show yf + 1 ≤ _; omega, by show 8 + (ym + 11) + yl ≤ _; omega⟩, hts _ k1, hts _ k2⟩ ⟨fun a U g mk2 q => ⟨q.1, q.2.1, q.2.2.blind⟩, hrec H locs σ hP hS, fun U hU hW => ⟨rfl, by rw [hU]; exact hP, hE.call hS hA2 hU hW⟩⟩ rfl rfl hl.1 rfl (lv_room hcat) d ⟨hR.2.2.1, hR.2.2.2⟩) hS hA2 (fun H1 locs1 hP1 hS1 => kk H1 locs1 ls hP1 hS1 hl)
set_option maxHeartbeats 1000000 in
theorem z_cS4r {T : zX} {cc : ByteArray} {own : String} {fr lo cl ch : Nat} (hC : zOk T cc own fr lo cl ch) {σ : zSt} {pc : Nat} {lv : List (Nat × Value)} {st : List Value} {index : Nat} {y : MethodName} {yc : ByteArray} {ym : Nat} {yr : Option FieldType} {yf yl : Nat} {v : Value} {σ' : zSt} {a1 a2 a3 a4 : Value} (hM2 : zMet (zL T) (zGr T) (zMk T) y yc ym yr yf yl [a1, a2, a3, a4] σ (some v) σ') (kw : zWS y yc ym yr 4) (hw : Cond.methodLink own index y ∈ zT) (hroom : yf + 1 ≤ fr ∧ 8 + (ym + 11) + yl ≤ lo) (hcat : (st.map fun v => v.category).sum ≤ 8) (d : decode cc pc = .ok (.invokestatic index, 3)) (kk : Z T σ' (pc + 3) lv (v :: st)) : Z T σ pc lv (a4 :: a3 :: a2 :: a1 :: st) := by
  obtain ⟨p, l, e, R, s, m, args, below, meth, cd, Q, nL, G, mk, A, cells, slots⟩ := T
  obtain ⟨hx, hb, hml, hown, hts, hE, hA, hR, hM⟩ := hC
  intro H locs ls hP hS hl
  obtain ⟨k1, k3, k4, k5⟩ := kw
  have hA2 : ∀ q, zA G q → A q := fun q ⟨k, hk, e⟩ => by rw [e]; exact hA k hk
  have hM2 : Met l y (.code y yc ym yr :: zT) { frames := yf, cells := 0, slots := 0, locals := yl } (va_Pc [a1, a2, a3, a4] (fun U => va_P G.1 vwCl (zW G (mk σ)) U.heap ∧ zEnv G (zA G) U)) (zQ G mk (some v) σ') 0 0 (zA G) := hM2
  exact z_run (r := some v) (va_runS (p := p) (As := [a1, a2, a3, a4]) (rest := st) ⟨hx, hb, hml, hown, hts⟩ hM2 ⟨callB_of 4 hts (zT_more k4) rfl rfl rfl (hts _ k3) (hts _ hw) k5 ⟨by show yf + 1 ≤ _; omega, by show 8 + (ym + 11) + yl ≤ _; omega⟩, hts _ k1⟩ ⟨fun a U g mk2 q => ⟨q.1, q.2.1, q.2.2.blind⟩, fun U hU hW => ⟨rfl, by rw [hU]; exact hP, hE.call hS hA2 hU hW⟩⟩ rfl rfl hl.1 rfl (lv_room hcat) d ⟨hR.2.2.1, hR.2.2.2⟩) hS hA2 (fun H1 locs1 hP1 hS1 => kk H1 locs1 ls hP1 hS1 hl)
set_option maxHeartbeats 1000000 in
theorem z_cS4v {T : zX} {cc : ByteArray} {own : String} {fr lo cl ch : Nat} (hC : zOk T cc own fr lo cl ch) {σ : zSt} {pc : Nat} {lv : List (Nat × Value)} {st : List Value} {index : Nat} {y : MethodName} {yc : ByteArray} {ym : Nat} {yr : Option FieldType} {yf yl : Nat} {σ' : zSt} {a1 a2 a3 a4 : Value} (hM2 : zMet (zL T) (zGr T) (zMk T) y yc ym yr yf yl [a1, a2, a3, a4] σ (none) σ') (kw : zWS y yc ym yr 4) (hw : Cond.methodLink own index y ∈ zT) (hroom : yf + 1 ≤ fr ∧ 8 + (ym + 11) + yl ≤ lo) (hcat : (st.map fun v => v.category).sum ≤ 8) (d : decode cc pc = .ok (.invokestatic index, 3)) (kk : Z T σ' (pc + 3) lv (st)) : Z T σ pc lv (a4 :: a3 :: a2 :: a1 :: st) := by
  obtain ⟨p, l, e, R, s, m, args, below, meth, cd, Q, nL, G, mk, A, cells, slots⟩ := T
  obtain ⟨hx, hb, hml, hown, hts, hE, hA, hR, hM⟩ := hC
  intro H locs ls hP hS hl
  obtain ⟨k1, k3, k4, k5⟩ := kw
  have hA2 : ∀ q, zA G q → A q := fun q ⟨k, hk, e⟩ => by rw [e]; exact hA k hk
  have hM2 : Met l y (.code y yc ym yr :: zT) { frames := yf, cells := 0, slots := 0, locals := yl } (va_Pc [a1, a2, a3, a4] (fun U => va_P G.1 vwCl (zW G (mk σ)) U.heap ∧ zEnv G (zA G) U)) (zQ G mk (none) σ') 0 0 (zA G) := hM2
  exact z_run (r := none) (va_runS (p := p) (As := [a1, a2, a3, a4]) (rest := st) ⟨hx, hb, hml, hown, hts⟩ hM2 ⟨callB_of 4 hts (zT_more k4) rfl rfl rfl (hts _ k3) (hts _ hw) k5 ⟨by show yf + 1 ≤ _; omega, by show 8 + (ym + 11) + yl ≤ _; omega⟩, hts _ k1⟩ ⟨fun a U g mk2 q => ⟨q.1, q.2.1, q.2.2.blind⟩, fun U hU hW => ⟨rfl, by rw [hU]; exact hP, hE.call hS hA2 hU hW⟩⟩ rfl rfl hl.1 rfl (lv_room hcat) d ⟨hR.2.2.1, hR.2.2.2⟩) hS hA2 (fun H1 locs1 hP1 hS1 => kk H1 locs1 ls hP1 hS1 hl)
set_option maxHeartbeats 1000000 in
theorem z_cV5r {T : zX} {cc : ByteArray} {own : String} {fr lo cl ch : Nat} (hC : zOk T cc own fr lo cl ch) {σ : zSt} {pc : Nat} {lv : List (Nat × Value)} {st : List Value} {index : Nat} {y : MethodName} {yc : ByteArray} {ym : Nat} {yr : Option FieldType} {yf yl : Nat} {v : Value} {σ' : zSt} {a : Nat} {a1 a2 a3 a4 a5 : Value} (hM2 : zMet (zL T) (zGr T) (zMk T) y yc ym yr yf yl [.ref a, a1, a2, a3, a4, a5] σ (some v) σ') (hrec : zRecv T a y.cls) (kw : zWV y yc ym yr 5) (hw : Cond.methodLink own index y ∈ zT) (hroom : yf + 1 ≤ fr ∧ 8 + (ym + 11) + yl ≤ lo) (hcat : (st.map fun v => v.category).sum ≤ 8) (d : decode cc pc = .ok (.invokevirtual index, 3)) (kk : Z T σ' (pc + 3) lv (v :: st)) : Z T σ pc lv (a5 :: a4 :: a3 :: a2 :: a1 :: .ref a :: st) := by
  obtain ⟨p, l, e, R, s, m, args, below, meth, cd, Q, nL, G, mk, A, cells, slots⟩ := T
  obtain ⟨hx, hb, hml, hown, hts, hE, hA, hR, hM⟩ := hC
  intro H locs ls hP hS hl
  obtain ⟨k1, k2, k3, k4, k5⟩ := kw
  have hA2 : ∀ q, zA G q → A q := fun q ⟨k, hk, e⟩ => by rw [e]; exact hA k hk
  have hM2 : Met l y (.code y yc ym yr :: zT) { frames := yf, cells := 0, slots := 0, locals := yl } (va_Pc [.ref a, a1, a2, a3, a4, a5] (fun U => va_P G.1 vwCl (zW G (mk σ)) U.heap ∧ zEnv G (zA G) U)) (zQ G mk (some v) σ') 0 0 (zA G) := hM2
  exact z_run (r := some v) (va_runV (p := p) (As := [a1, a2, a3, a4, a5]) (rest := st) (C := y.cls) ⟨hx, hb, hml, hown, hts⟩ hM2 ⟨callB_of 5 hts (zT_more k4) rfl rfl rfl (hts _ k3) (hts _ hw) k5 ⟨by show yf + 1 ≤ _; omega, by show 8 + (ym + 11) + yl ≤ _; omega⟩, hts _ k1, hts _ k2⟩ ⟨fun a U g mk2 q => ⟨q.1, q.2.1, q.2.2.blind⟩, hrec H locs σ hP hS, fun U hU hW => ⟨rfl, by rw [hU]; exact hP, hE.call hS hA2 hU hW⟩⟩ rfl rfl hl.1 rfl (lv_room hcat) d ⟨hR.2.2.1, hR.2.2.2⟩) hS hA2 (fun H1 locs1 hP1 hS1 => kk H1 locs1 ls hP1 hS1 hl)
set_option maxHeartbeats 1000000 in
theorem z_cV5v {T : zX} {cc : ByteArray} {own : String} {fr lo cl ch : Nat} (hC : zOk T cc own fr lo cl ch) {σ : zSt} {pc : Nat} {lv : List (Nat × Value)} {st : List Value} {index : Nat} {y : MethodName} {yc : ByteArray} {ym : Nat} {yr : Option FieldType} {yf yl : Nat} {σ' : zSt} {a : Nat} {a1 a2 a3 a4 a5 : Value} (hM2 : zMet (zL T) (zGr T) (zMk T) y yc ym yr yf yl [.ref a, a1, a2, a3, a4, a5] σ (none) σ') (hrec : zRecv T a y.cls) (kw : zWV y yc ym yr 5) (hw : Cond.methodLink own index y ∈ zT) (hroom : yf + 1 ≤ fr ∧ 8 + (ym + 11) + yl ≤ lo) (hcat : (st.map fun v => v.category).sum ≤ 8) (d : decode cc pc = .ok (.invokevirtual index, 3)) (kk : Z T σ' (pc + 3) lv (st)) : Z T σ pc lv (a5 :: a4 :: a3 :: a2 :: a1 :: .ref a :: st) := by
  obtain ⟨p, l, e, R, s, m, args, below, meth, cd, Q, nL, G, mk, A, cells, slots⟩ := T
  obtain ⟨hx, hb, hml, hown, hts, hE, hA, hR, hM⟩ := hC
  intro H locs ls hP hS hl
  obtain ⟨k1, k2, k3, k4, k5⟩ := kw
  have hA2 : ∀ q, zA G q → A q := fun q ⟨k, hk, e⟩ => by rw [e]; exact hA k hk
  have hM2 : Met l y (.code y yc ym yr :: zT) { frames := yf, cells := 0, slots := 0, locals := yl } (va_Pc [.ref a, a1, a2, a3, a4, a5] (fun U => va_P G.1 vwCl (zW G (mk σ)) U.heap ∧ zEnv G (zA G) U)) (zQ G mk (none) σ') 0 0 (zA G) := hM2
  exact z_run (r := none) (va_runV (p := p) (As := [a1, a2, a3, a4, a5]) (rest := st) (C := y.cls) ⟨hx, hb, hml, hown, hts⟩ hM2 ⟨callB_of 5 hts (zT_more k4) rfl rfl rfl (hts _ k3) (hts _ hw) k5 ⟨by show yf + 1 ≤ _; omega, by show 8 + (ym + 11) + yl ≤ _; omega⟩, hts _ k1, hts _ k2⟩ ⟨fun a U g mk2 q => ⟨q.1, q.2.1, q.2.2.blind⟩, hrec H locs σ hP hS, fun U hU hW => ⟨rfl, by rw [hU]; exact hP, hE.call hS hA2 hU hW⟩⟩ rfl rfl hl.1 rfl (lv_room hcat) d ⟨hR.2.2.1, hR.2.2.2⟩) hS hA2 (fun H1 locs1 hP1 hS1 => kk H1 locs1 ls hP1 hS1 hl)
set_option maxHeartbeats 1000000 in
theorem z_cS5r {T : zX} {cc : ByteArray} {own : String} {fr lo cl ch : Nat} (hC : zOk T cc own fr lo cl ch) {σ : zSt} {pc : Nat} {lv : List (Nat × Value)} {st : List Value} {index : Nat} {y : MethodName} {yc : ByteArray} {ym : Nat} {yr : Option FieldType} {yf yl : Nat} {v : Value} {σ' : zSt} {a1 a2 a3 a4 a5 : Value} (hM2 : zMet (zL T) (zGr T) (zMk T) y yc ym yr yf yl [a1, a2, a3, a4, a5] σ (some v) σ') (kw : zWS y yc ym yr 5) (hw : Cond.methodLink own index y ∈ zT) (hroom : yf + 1 ≤ fr ∧ 8 + (ym + 11) + yl ≤ lo) (hcat : (st.map fun v => v.category).sum ≤ 8) (d : decode cc pc = .ok (.invokestatic index, 3)) (kk : Z T σ' (pc + 3) lv (v :: st)) : Z T σ pc lv (a5 :: a4 :: a3 :: a2 :: a1 :: st) := by
  obtain ⟨p, l, e, R, s, m, args, below, meth, cd, Q, nL, G, mk, A, cells, slots⟩ := T
  obtain ⟨hx, hb, hml, hown, hts, hE, hA, hR, hM⟩ := hC
  intro H locs ls hP hS hl
  obtain ⟨k1, k3, k4, k5⟩ := kw
  have hA2 : ∀ q, zA G q → A q := fun q ⟨k, hk, e⟩ => by rw [e]; exact hA k hk
  have hM2 : Met l y (.code y yc ym yr :: zT) { frames := yf, cells := 0, slots := 0, locals := yl } (va_Pc [a1, a2, a3, a4, a5] (fun U => va_P G.1 vwCl (zW G (mk σ)) U.heap ∧ zEnv G (zA G) U)) (zQ G mk (some v) σ') 0 0 (zA G) := hM2
  exact z_run (r := some v) (va_runS (p := p) (As := [a1, a2, a3, a4, a5]) (rest := st) ⟨hx, hb, hml, hown, hts⟩ hM2 ⟨callB_of 5 hts (zT_more k4) rfl rfl rfl (hts _ k3) (hts _ hw) k5 ⟨by show yf + 1 ≤ _; omega, by show 8 + (ym + 11) + yl ≤ _; omega⟩, hts _ k1⟩ ⟨fun a U g mk2 q => ⟨q.1, q.2.1, q.2.2.blind⟩, fun U hU hW => ⟨rfl, by rw [hU]; exact hP, hE.call hS hA2 hU hW⟩⟩ rfl rfl hl.1 rfl (lv_room hcat) d ⟨hR.2.2.1, hR.2.2.2⟩) hS hA2 (fun H1 locs1 hP1 hS1 => kk H1 locs1 ls hP1 hS1 hl)
set_option maxHeartbeats 1000000 in
theorem z_cS5v {T : zX} {cc : ByteArray} {own : String} {fr lo cl ch : Nat} (hC : zOk T cc own fr lo cl ch) {σ : zSt} {pc : Nat} {lv : List (Nat × Value)} {st : List Value} {index : Nat} {y : MethodName} {yc : ByteArray} {ym : Nat} {yr : Option FieldType} {yf yl : Nat} {σ' : zSt} {a1 a2 a3 a4 a5 : Value} (hM2 : zMet (zL T) (zGr T) (zMk T) y yc ym yr yf yl [a1, a2, a3, a4, a5] σ (none) σ') (kw : zWS y yc ym yr 5) (hw : Cond.methodLink own index y ∈ zT) (hroom : yf + 1 ≤ fr ∧ 8 + (ym + 11) + yl ≤ lo) (hcat : (st.map fun v => v.category).sum ≤ 8) (d : decode cc pc = .ok (.invokestatic index, 3)) (kk : Z T σ' (pc + 3) lv (st)) : Z T σ pc lv (a5 :: a4 :: a3 :: a2 :: a1 :: st) := by
  obtain ⟨p, l, e, R, s, m, args, below, meth, cd, Q, nL, G, mk, A, cells, slots⟩ := T
  obtain ⟨hx, hb, hml, hown, hts, hE, hA, hR, hM⟩ := hC
  intro H locs ls hP hS hl
  obtain ⟨k1, k3, k4, k5⟩ := kw
  have hA2 : ∀ q, zA G q → A q := fun q ⟨k, hk, e⟩ => by rw [e]; exact hA k hk
  have hM2 : Met l y (.code y yc ym yr :: zT) { frames := yf, cells := 0, slots := 0, locals := yl } (va_Pc [a1, a2, a3, a4, a5] (fun U => va_P G.1 vwCl (zW G (mk σ)) U.heap ∧ zEnv G (zA G) U)) (zQ G mk (none) σ') 0 0 (zA G) := hM2
  exact z_run (r := none) (va_runS (p := p) (As := [a1, a2, a3, a4, a5]) (rest := st) ⟨hx, hb, hml, hown, hts⟩ hM2 ⟨callB_of 5 hts (zT_more k4) rfl rfl rfl (hts _ k3) (hts _ hw) k5 ⟨by show yf + 1 ≤ _; omega, by show 8 + (ym + 11) + yl ≤ _; omega⟩, hts _ k1⟩ ⟨fun a U g mk2 q => ⟨q.1, q.2.1, q.2.2.blind⟩, fun U hU hW => ⟨rfl, by rw [hU]; exact hP, hE.call hS hA2 hU hW⟩⟩ rfl rfl hl.1 rfl (lv_room hcat) d ⟨hR.2.2.1, hR.2.2.2⟩) hS hA2 (fun H1 locs1 hP1 hS1 => kk H1 locs1 ls hP1 hS1 hl)
set_option maxHeartbeats 1000000 in
theorem z_cV6r {T : zX} {cc : ByteArray} {own : String} {fr lo cl ch : Nat} (hC : zOk T cc own fr lo cl ch) {σ : zSt} {pc : Nat} {lv : List (Nat × Value)} {st : List Value} {index : Nat} {y : MethodName} {yc : ByteArray} {ym : Nat} {yr : Option FieldType} {yf yl : Nat} {v : Value} {σ' : zSt} {a : Nat} {a1 a2 a3 a4 a5 a6 : Value} (hM2 : zMet (zL T) (zGr T) (zMk T) y yc ym yr yf yl [.ref a, a1, a2, a3, a4, a5, a6] σ (some v) σ') (hrec : zRecv T a y.cls) (kw : zWV y yc ym yr 6) (hw : Cond.methodLink own index y ∈ zT) (hroom : yf + 1 ≤ fr ∧ 8 + (ym + 11) + yl ≤ lo) (hcat : (st.map fun v => v.category).sum ≤ 8) (d : decode cc pc = .ok (.invokevirtual index, 3)) (kk : Z T σ' (pc + 3) lv (v :: st)) : Z T σ pc lv (a6 :: a5 :: a4 :: a3 :: a2 :: a1 :: .ref a :: st) := by
  obtain ⟨p, l, e, R, s, m, args, below, meth, cd, Q, nL, G, mk, A, cells, slots⟩ := T
  obtain ⟨hx, hb, hml, hown, hts, hE, hA, hR, hM⟩ := hC
  intro H locs ls hP hS hl
  obtain ⟨k1, k2, k3, k4, k5⟩ := kw
  have hA2 : ∀ q, zA G q → A q := fun q ⟨k, hk, e⟩ => by rw [e]; exact hA k hk
  have hM2 : Met l y (.code y yc ym yr :: zT) { frames := yf, cells := 0, slots := 0, locals := yl } (va_Pc [.ref a, a1, a2, a3, a4, a5, a6] (fun U => va_P G.1 vwCl (zW G (mk σ)) U.heap ∧ zEnv G (zA G) U)) (zQ G mk (some v) σ') 0 0 (zA G) := hM2
  exact z_run (r := some v) (va_runV (p := p) (As := [a1, a2, a3, a4, a5, a6]) (rest := st) (C := y.cls) ⟨hx, hb, hml, hown, hts⟩ hM2 ⟨callB_of 6 hts (zT_more k4) rfl rfl rfl (hts _ k3) (hts _ hw) k5 ⟨by show yf + 1 ≤ _; omega, by show 8 + (ym + 11) + yl ≤ _; omega⟩, hts _ k1, hts _ k2⟩ ⟨fun a U g mk2 q => ⟨q.1, q.2.1, q.2.2.blind⟩, hrec H locs σ hP hS, fun U hU hW => ⟨rfl, by rw [hU]; exact hP, hE.call hS hA2 hU hW⟩⟩ rfl rfl hl.1 rfl (lv_room hcat) d ⟨hR.2.2.1, hR.2.2.2⟩) hS hA2 (fun H1 locs1 hP1 hS1 => kk H1 locs1 ls hP1 hS1 hl)
set_option maxHeartbeats 1000000 in
theorem z_cV6v {T : zX} {cc : ByteArray} {own : String} {fr lo cl ch : Nat} (hC : zOk T cc own fr lo cl ch) {σ : zSt} {pc : Nat} {lv : List (Nat × Value)} {st : List Value} {index : Nat} {y : MethodName} {yc : ByteArray} {ym : Nat} {yr : Option FieldType} {yf yl : Nat} {σ' : zSt} {a : Nat} {a1 a2 a3 a4 a5 a6 : Value} (hM2 : zMet (zL T) (zGr T) (zMk T) y yc ym yr yf yl [.ref a, a1, a2, a3, a4, a5, a6] σ (none) σ') (hrec : zRecv T a y.cls) (kw : zWV y yc ym yr 6) (hw : Cond.methodLink own index y ∈ zT) (hroom : yf + 1 ≤ fr ∧ 8 + (ym + 11) + yl ≤ lo) (hcat : (st.map fun v => v.category).sum ≤ 8) (d : decode cc pc = .ok (.invokevirtual index, 3)) (kk : Z T σ' (pc + 3) lv (st)) : Z T σ pc lv (a6 :: a5 :: a4 :: a3 :: a2 :: a1 :: .ref a :: st) := by
  obtain ⟨p, l, e, R, s, m, args, below, meth, cd, Q, nL, G, mk, A, cells, slots⟩ := T
  obtain ⟨hx, hb, hml, hown, hts, hE, hA, hR, hM⟩ := hC
  intro H locs ls hP hS hl
  obtain ⟨k1, k2, k3, k4, k5⟩ := kw
  have hA2 : ∀ q, zA G q → A q := fun q ⟨k, hk, e⟩ => by rw [e]; exact hA k hk
  have hM2 : Met l y (.code y yc ym yr :: zT) { frames := yf, cells := 0, slots := 0, locals := yl } (va_Pc [.ref a, a1, a2, a3, a4, a5, a6] (fun U => va_P G.1 vwCl (zW G (mk σ)) U.heap ∧ zEnv G (zA G) U)) (zQ G mk (none) σ') 0 0 (zA G) := hM2
  exact z_run (r := none) (va_runV (p := p) (As := [a1, a2, a3, a4, a5, a6]) (rest := st) (C := y.cls) ⟨hx, hb, hml, hown, hts⟩ hM2 ⟨callB_of 6 hts (zT_more k4) rfl rfl rfl (hts _ k3) (hts _ hw) k5 ⟨by show yf + 1 ≤ _; omega, by show 8 + (ym + 11) + yl ≤ _; omega⟩, hts _ k1, hts _ k2⟩ ⟨fun a U g mk2 q => ⟨q.1, q.2.1, q.2.2.blind⟩, hrec H locs σ hP hS, fun U hU hW => ⟨rfl, by rw [hU]; exact hP, hE.call hS hA2 hU hW⟩⟩ rfl rfl hl.1 rfl (lv_room hcat) d ⟨hR.2.2.1, hR.2.2.2⟩) hS hA2 (fun H1 locs1 hP1 hS1 => kk H1 locs1 ls hP1 hS1 hl)
set_option maxHeartbeats 1000000 in
theorem z_cS6r {T : zX} {cc : ByteArray} {own : String} {fr lo cl ch : Nat} (hC : zOk T cc own fr lo cl ch) {σ : zSt} {pc : Nat} {lv : List (Nat × Value)} {st : List Value} {index : Nat} {y : MethodName} {yc : ByteArray} {ym : Nat} {yr : Option FieldType} {yf yl : Nat} {v : Value} {σ' : zSt} {a1 a2 a3 a4 a5 a6 : Value} (hM2 : zMet (zL T) (zGr T) (zMk T) y yc ym yr yf yl [a1, a2, a3, a4, a5, a6] σ (some v) σ') (kw : zWS y yc ym yr 6) (hw : Cond.methodLink own index y ∈ zT) (hroom : yf + 1 ≤ fr ∧ 8 + (ym + 11) + yl ≤ lo) (hcat : (st.map fun v => v.category).sum ≤ 8) (d : decode cc pc = .ok (.invokestatic index, 3)) (kk : Z T σ' (pc + 3) lv (v :: st)) : Z T σ pc lv (a6 :: a5 :: a4 :: a3 :: a2 :: a1 :: st) := by
  obtain ⟨p, l, e, R, s, m, args, below, meth, cd, Q, nL, G, mk, A, cells, slots⟩ := T
  obtain ⟨hx, hb, hml, hown, hts, hE, hA, hR, hM⟩ := hC
  intro H locs ls hP hS hl
  obtain ⟨k1, k3, k4, k5⟩ := kw
  have hA2 : ∀ q, zA G q → A q := fun q ⟨k, hk, e⟩ => by rw [e]; exact hA k hk
  have hM2 : Met l y (.code y yc ym yr :: zT) { frames := yf, cells := 0, slots := 0, locals := yl } (va_Pc [a1, a2, a3, a4, a5, a6] (fun U => va_P G.1 vwCl (zW G (mk σ)) U.heap ∧ zEnv G (zA G) U)) (zQ G mk (some v) σ') 0 0 (zA G) := hM2
  exact z_run (r := some v) (va_runS (p := p) (As := [a1, a2, a3, a4, a5, a6]) (rest := st) ⟨hx, hb, hml, hown, hts⟩ hM2 ⟨callB_of 6 hts (zT_more k4) rfl rfl rfl (hts _ k3) (hts _ hw) k5 ⟨by show yf + 1 ≤ _; omega, by show 8 + (ym + 11) + yl ≤ _; omega⟩, hts _ k1⟩ ⟨fun a U g mk2 q => ⟨q.1, q.2.1, q.2.2.blind⟩, fun U hU hW => ⟨rfl, by rw [hU]; exact hP, hE.call hS hA2 hU hW⟩⟩ rfl rfl hl.1 rfl (lv_room hcat) d ⟨hR.2.2.1, hR.2.2.2⟩) hS hA2 (fun H1 locs1 hP1 hS1 => kk H1 locs1 ls hP1 hS1 hl)
set_option maxHeartbeats 1000000 in
theorem z_cS6v {T : zX} {cc : ByteArray} {own : String} {fr lo cl ch : Nat} (hC : zOk T cc own fr lo cl ch) {σ : zSt} {pc : Nat} {lv : List (Nat × Value)} {st : List Value} {index : Nat} {y : MethodName} {yc : ByteArray} {ym : Nat} {yr : Option FieldType} {yf yl : Nat} {σ' : zSt} {a1 a2 a3 a4 a5 a6 : Value} (hM2 : zMet (zL T) (zGr T) (zMk T) y yc ym yr yf yl [a1, a2, a3, a4, a5, a6] σ (none) σ') (kw : zWS y yc ym yr 6) (hw : Cond.methodLink own index y ∈ zT) (hroom : yf + 1 ≤ fr ∧ 8 + (ym + 11) + yl ≤ lo) (hcat : (st.map fun v => v.category).sum ≤ 8) (d : decode cc pc = .ok (.invokestatic index, 3)) (kk : Z T σ' (pc + 3) lv (st)) : Z T σ pc lv (a6 :: a5 :: a4 :: a3 :: a2 :: a1 :: st) := by
  obtain ⟨p, l, e, R, s, m, args, below, meth, cd, Q, nL, G, mk, A, cells, slots⟩ := T
  obtain ⟨hx, hb, hml, hown, hts, hE, hA, hR, hM⟩ := hC
  intro H locs ls hP hS hl
  obtain ⟨k1, k3, k4, k5⟩ := kw
  have hA2 : ∀ q, zA G q → A q := fun q ⟨k, hk, e⟩ => by rw [e]; exact hA k hk
  have hM2 : Met l y (.code y yc ym yr :: zT) { frames := yf, cells := 0, slots := 0, locals := yl } (va_Pc [a1, a2, a3, a4, a5, a6] (fun U => va_P G.1 vwCl (zW G (mk σ)) U.heap ∧ zEnv G (zA G) U)) (zQ G mk (none) σ') 0 0 (zA G) := hM2
  exact z_run (r := none) (va_runS (p := p) (As := [a1, a2, a3, a4, a5, a6]) (rest := st) ⟨hx, hb, hml, hown, hts⟩ hM2 ⟨callB_of 6 hts (zT_more k4) rfl rfl rfl (hts _ k3) (hts _ hw) k5 ⟨by show yf + 1 ≤ _; omega, by show 8 + (ym + 11) + yl ≤ _; omega⟩, hts _ k1⟩ ⟨fun a U g mk2 q => ⟨q.1, q.2.1, q.2.2.blind⟩, fun U hU hW => ⟨rfl, by rw [hU]; exact hP, hE.call hS hA2 hU hW⟩⟩ rfl rfl hl.1 rfl (lv_room hcat) d ⟨hR.2.2.1, hR.2.2.2⟩) hS hA2 (fun H1 locs1 hP1 hS1 => kk H1 locs1 ls hP1 hS1 hl)
set_option maxHeartbeats 1000000 in
theorem z_cV7r {T : zX} {cc : ByteArray} {own : String} {fr lo cl ch : Nat} (hC : zOk T cc own fr lo cl ch) {σ : zSt} {pc : Nat} {lv : List (Nat × Value)} {st : List Value} {index : Nat} {y : MethodName} {yc : ByteArray} {ym : Nat} {yr : Option FieldType} {yf yl : Nat} {v : Value} {σ' : zSt} {a : Nat} {a1 a2 a3 a4 a5 a6 a7 : Value} (hM2 : zMet (zL T) (zGr T) (zMk T) y yc ym yr yf yl [.ref a, a1, a2, a3, a4, a5, a6, a7] σ (some v) σ') (hrec : zRecv T a y.cls) (kw : zWV y yc ym yr 7) (hw : Cond.methodLink own index y ∈ zT) (hroom : yf + 1 ≤ fr ∧ 8 + (ym + 11) + yl ≤ lo) (hcat : (st.map fun v => v.category).sum ≤ 8) (d : decode cc pc = .ok (.invokevirtual index, 3)) (kk : Z T σ' (pc + 3) lv (v :: st)) : Z T σ pc lv (a7 :: a6 :: a5 :: a4 :: a3 :: a2 :: a1 :: .ref a :: st) := by
  obtain ⟨p, l, e, R, s, m, args, below, meth, cd, Q, nL, G, mk, A, cells, slots⟩ := T
  obtain ⟨hx, hb, hml, hown, hts, hE, hA, hR, hM⟩ := hC
  intro H locs ls hP hS hl
  obtain ⟨k1, k2, k3, k4, k5⟩ := kw
  have hA2 : ∀ q, zA G q → A q := fun q ⟨k, hk, e⟩ => by rw [e]; exact hA k hk
  have hM2 : Met l y (.code y yc ym yr :: zT) { frames := yf, cells := 0, slots := 0, locals := yl } (va_Pc [.ref a, a1, a2, a3, a4, a5, a6, a7] (fun U => va_P G.1 vwCl (zW G (mk σ)) U.heap ∧ zEnv G (zA G) U)) (zQ G mk (some v) σ') 0 0 (zA G) := hM2
  exact z_run (r := some v) (va_runV (p := p) (As := [a1, a2, a3, a4, a5, a6, a7]) (rest := st) (C := y.cls) ⟨hx, hb, hml, hown, hts⟩ hM2 ⟨callB_of 7 hts (zT_more k4) rfl rfl rfl (hts _ k3) (hts _ hw) k5 ⟨by show yf + 1 ≤ _; omega, by show 8 + (ym + 11) + yl ≤ _; omega⟩, hts _ k1, hts _ k2⟩ ⟨fun a U g mk2 q => ⟨q.1, q.2.1, q.2.2.blind⟩, hrec H locs σ hP hS, fun U hU hW => ⟨rfl, by rw [hU]; exact hP, hE.call hS hA2 hU hW⟩⟩ rfl rfl hl.1 rfl (lv_room hcat) d ⟨hR.2.2.1, hR.2.2.2⟩) hS hA2 (fun H1 locs1 hP1 hS1 => kk H1 locs1 ls hP1 hS1 hl)
set_option maxHeartbeats 1000000 in
theorem z_cV7v {T : zX} {cc : ByteArray} {own : String} {fr lo cl ch : Nat} (hC : zOk T cc own fr lo cl ch) {σ : zSt} {pc : Nat} {lv : List (Nat × Value)} {st : List Value} {index : Nat} {y : MethodName} {yc : ByteArray} {ym : Nat} {yr : Option FieldType} {yf yl : Nat} {σ' : zSt} {a : Nat} {a1 a2 a3 a4 a5 a6 a7 : Value} (hM2 : zMet (zL T) (zGr T) (zMk T) y yc ym yr yf yl [.ref a, a1, a2, a3, a4, a5, a6, a7] σ (none) σ') (hrec : zRecv T a y.cls) (kw : zWV y yc ym yr 7) (hw : Cond.methodLink own index y ∈ zT) (hroom : yf + 1 ≤ fr ∧ 8 + (ym + 11) + yl ≤ lo) (hcat : (st.map fun v => v.category).sum ≤ 8) (d : decode cc pc = .ok (.invokevirtual index, 3)) (kk : Z T σ' (pc + 3) lv (st)) : Z T σ pc lv (a7 :: a6 :: a5 :: a4 :: a3 :: a2 :: a1 :: .ref a :: st) := by
  obtain ⟨p, l, e, R, s, m, args, below, meth, cd, Q, nL, G, mk, A, cells, slots⟩ := T
  obtain ⟨hx, hb, hml, hown, hts, hE, hA, hR, hM⟩ := hC
  intro H locs ls hP hS hl
  obtain ⟨k1, k2, k3, k4, k5⟩ := kw
  have hA2 : ∀ q, zA G q → A q := fun q ⟨k, hk, e⟩ => by rw [e]; exact hA k hk
  have hM2 : Met l y (.code y yc ym yr :: zT) { frames := yf, cells := 0, slots := 0, locals := yl } (va_Pc [.ref a, a1, a2, a3, a4, a5, a6, a7] (fun U => va_P G.1 vwCl (zW G (mk σ)) U.heap ∧ zEnv G (zA G) U)) (zQ G mk (none) σ') 0 0 (zA G) := hM2
  exact z_run (r := none) (va_runV (p := p) (As := [a1, a2, a3, a4, a5, a6, a7]) (rest := st) (C := y.cls) ⟨hx, hb, hml, hown, hts⟩ hM2 ⟨callB_of 7 hts (zT_more k4) rfl rfl rfl (hts _ k3) (hts _ hw) k5 ⟨by show yf + 1 ≤ _; omega, by show 8 + (ym + 11) + yl ≤ _; omega⟩, hts _ k1, hts _ k2⟩ ⟨fun a U g mk2 q => ⟨q.1, q.2.1, q.2.2.blind⟩, hrec H locs σ hP hS, fun U hU hW => ⟨rfl, by rw [hU]; exact hP, hE.call hS hA2 hU hW⟩⟩ rfl rfl hl.1 rfl (lv_room hcat) d ⟨hR.2.2.1, hR.2.2.2⟩) hS hA2 (fun H1 locs1 hP1 hS1 => kk H1 locs1 ls hP1 hS1 hl)
set_option maxHeartbeats 1000000 in
theorem z_cS7r {T : zX} {cc : ByteArray} {own : String} {fr lo cl ch : Nat} (hC : zOk T cc own fr lo cl ch) {σ : zSt} {pc : Nat} {lv : List (Nat × Value)} {st : List Value} {index : Nat} {y : MethodName} {yc : ByteArray} {ym : Nat} {yr : Option FieldType} {yf yl : Nat} {v : Value} {σ' : zSt} {a1 a2 a3 a4 a5 a6 a7 : Value} (hM2 : zMet (zL T) (zGr T) (zMk T) y yc ym yr yf yl [a1, a2, a3, a4, a5, a6, a7] σ (some v) σ') (kw : zWS y yc ym yr 7) (hw : Cond.methodLink own index y ∈ zT) (hroom : yf + 1 ≤ fr ∧ 8 + (ym + 11) + yl ≤ lo) (hcat : (st.map fun v => v.category).sum ≤ 8) (d : decode cc pc = .ok (.invokestatic index, 3)) (kk : Z T σ' (pc + 3) lv (v :: st)) : Z T σ pc lv (a7 :: a6 :: a5 :: a4 :: a3 :: a2 :: a1 :: st) := by
  obtain ⟨p, l, e, R, s, m, args, below, meth, cd, Q, nL, G, mk, A, cells, slots⟩ := T
  obtain ⟨hx, hb, hml, hown, hts, hE, hA, hR, hM⟩ := hC
  intro H locs ls hP hS hl
  obtain ⟨k1, k3, k4, k5⟩ := kw
  have hA2 : ∀ q, zA G q → A q := fun q ⟨k, hk, e⟩ => by rw [e]; exact hA k hk
  have hM2 : Met l y (.code y yc ym yr :: zT) { frames := yf, cells := 0, slots := 0, locals := yl } (va_Pc [a1, a2, a3, a4, a5, a6, a7] (fun U => va_P G.1 vwCl (zW G (mk σ)) U.heap ∧ zEnv G (zA G) U)) (zQ G mk (some v) σ') 0 0 (zA G) := hM2
  exact z_run (r := some v) (va_runS (p := p) (As := [a1, a2, a3, a4, a5, a6, a7]) (rest := st) ⟨hx, hb, hml, hown, hts⟩ hM2 ⟨callB_of 7 hts (zT_more k4) rfl rfl rfl (hts _ k3) (hts _ hw) k5 ⟨by show yf + 1 ≤ _; omega, by show 8 + (ym + 11) + yl ≤ _; omega⟩, hts _ k1⟩ ⟨fun a U g mk2 q => ⟨q.1, q.2.1, q.2.2.blind⟩, fun U hU hW => ⟨rfl, by rw [hU]; exact hP, hE.call hS hA2 hU hW⟩⟩ rfl rfl hl.1 rfl (lv_room hcat) d ⟨hR.2.2.1, hR.2.2.2⟩) hS hA2 (fun H1 locs1 hP1 hS1 => kk H1 locs1 ls hP1 hS1 hl)
set_option maxHeartbeats 1000000 in
theorem z_cS7v {T : zX} {cc : ByteArray} {own : String} {fr lo cl ch : Nat} (hC : zOk T cc own fr lo cl ch) {σ : zSt} {pc : Nat} {lv : List (Nat × Value)} {st : List Value} {index : Nat} {y : MethodName} {yc : ByteArray} {ym : Nat} {yr : Option FieldType} {yf yl : Nat} {σ' : zSt} {a1 a2 a3 a4 a5 a6 a7 : Value} (hM2 : zMet (zL T) (zGr T) (zMk T) y yc ym yr yf yl [a1, a2, a3, a4, a5, a6, a7] σ (none) σ') (kw : zWS y yc ym yr 7) (hw : Cond.methodLink own index y ∈ zT) (hroom : yf + 1 ≤ fr ∧ 8 + (ym + 11) + yl ≤ lo) (hcat : (st.map fun v => v.category).sum ≤ 8) (d : decode cc pc = .ok (.invokestatic index, 3)) (kk : Z T σ' (pc + 3) lv (st)) : Z T σ pc lv (a7 :: a6 :: a5 :: a4 :: a3 :: a2 :: a1 :: st) := by
  obtain ⟨p, l, e, R, s, m, args, below, meth, cd, Q, nL, G, mk, A, cells, slots⟩ := T
  obtain ⟨hx, hb, hml, hown, hts, hE, hA, hR, hM⟩ := hC
  intro H locs ls hP hS hl
  obtain ⟨k1, k3, k4, k5⟩ := kw
  have hA2 : ∀ q, zA G q → A q := fun q ⟨k, hk, e⟩ => by rw [e]; exact hA k hk
  have hM2 : Met l y (.code y yc ym yr :: zT) { frames := yf, cells := 0, slots := 0, locals := yl } (va_Pc [a1, a2, a3, a4, a5, a6, a7] (fun U => va_P G.1 vwCl (zW G (mk σ)) U.heap ∧ zEnv G (zA G) U)) (zQ G mk (none) σ') 0 0 (zA G) := hM2
  exact z_run (r := none) (va_runS (p := p) (As := [a1, a2, a3, a4, a5, a6, a7]) (rest := st) ⟨hx, hb, hml, hown, hts⟩ hM2 ⟨callB_of 7 hts (zT_more k4) rfl rfl rfl (hts _ k3) (hts _ hw) k5 ⟨by show yf + 1 ≤ _; omega, by show 8 + (ym + 11) + yl ≤ _; omega⟩, hts _ k1⟩ ⟨fun a U g mk2 q => ⟨q.1, q.2.1, q.2.2.blind⟩, fun U hU hW => ⟨rfl, by rw [hU]; exact hP, hE.call hS hA2 hU hW⟩⟩ rfl rfl hl.1 rfl (lv_room hcat) d ⟨hR.2.2.1, hR.2.2.2⟩) hS hA2 (fun H1 locs1 hP1 hS1 => kk H1 locs1 ls hP1 hS1 hl)
theorem z_cS2rN {T : zX} {cc : ByteArray} {own : String} {fr lo cl ch : Nat} (hC : zOk T cc own fr lo cl ch) {σ : zSt} {pc : Nat} {lv : List (Nat × Value)} {st : List Value} {index : Nat} {y : MethodName} {yc : ByteArray} {ym : Nat} {yr : Option FieldType} {yf yl : Nat} {v : Value} {σ' : zSt} {a1 a2 : Value} {host : String} (hM2 : zMet (zL T) (zGr T) (zMk T) y yc ym yr yf yl [a1, a2] σ (some v) σ') (kw : zWS y yc ym yr 2) (hw : Cond.methodLinkNest own index y host ∈ zNest) (hroom : yf + 1 ≤ fr ∧ 8 + (ym + 11) + yl ≤ lo) (hcat : (st.map fun v => v.category).sum ≤ 8) (d : decode cc pc = .ok (.invokestatic index, 3)) (kk : Z T σ' (pc + 3) lv (v :: st)) : Z T σ pc lv (a2 :: a1 :: st) := by
  obtain ⟨p, l, e, R, s, m, args, below, meth, cd, Q, nL, G, mk, A, cells, slots⟩ := T
  obtain ⟨hx, hb, hml, hown, hts, hE, hA, hR, hM⟩ := hC
  intro H locs ls hP hS hl
  obtain ⟨k1, k3, k4, k5⟩ := kw
  have hA2 : ∀ q, zA G q → A q := fun q ⟨k, hk, e⟩ => by rw [e]; exact hA k hk
  have hM2 : Met l y (.code y yc ym yr :: zT) { frames := yf, cells := 0, slots := 0, locals := yl } (va_Pc [a1, a2] (fun U => va_P G.1 vwCl (zW G (mk σ)) U.heap ∧ zEnv G (zA G) U)) (zQ G mk (some v) σ') 0 0 (zA G) := hM2
  exact z_run (r := some v) (va_runSN (p := p) (As := [a1, a2]) (rest := st) ⟨hx, hb, hml, hown, hts⟩ hM2 ⟨va_cnB (host := host) 2 hts (zT_more k4) rfl rfl rfl (hE.2.2.2.2.2 _ hw) (hts _ k3) k5 ⟨by show yf + 1 ≤ _; omega, by show 8 + (ym + 11) + yl ≤ _; omega⟩, hts _ k1, trivial⟩ ⟨fun a U g mk2 q => ⟨q.1, q.2.1, q.2.2.blind⟩, fun U hU hW => ⟨rfl, by rw [hU]; exact hP, hE.call hS hA2 hU hW⟩⟩ rfl rfl hl.1 rfl (lv_room hcat) d ⟨hR.2.2.1, hR.2.2.2⟩) hS hA2 (fun H1 locs1 hP1 hS1 => kk H1 locs1 ls hP1 hS1 hl)
end
section
theorem rcX8 {T : zX} {cc : ByteArray} {own : String} {fr lo cl ch : Nat} (hC : zOk T cc own fr lo cl ch) : zRecv T (zAd T 0) RX8 := by
  obtain ⟨p, l, e, R, s, m, args, below, meth, cd, Q, nL, G, mk, A, cells, slots⟩ := T
  obtain ⟨hx, hb, hml, hown, hts, hE, hA, hR, hM⟩ := hC
  intro H locs σ hP hS
  exact va_recv (q := (RX8, TX8, 8)) hE.1 hP (ci := 6) rfl ((zW_at (c := 0) (by decide)).trans (congrArg (fun e => some (gA G 0, e)) (zS_0 _ _ _)))
theorem rcX3 {T : zX} {cc : ByteArray} {own : String} {fr lo cl ch : Nat} (hC : zOk T cc own fr lo cl ch) : zRecv T (zAd T 1) RX3 := by
  obtain ⟨p, l, e, R, s, m, args, below, meth, cd, Q, nL, G, mk, A, cells, slots⟩ := T
  obtain ⟨hx, hb, hml, hown, hts, hE, hA, hR, hM⟩ := hC
  intro H locs σ hP hS
  exact va_recv (q := (RX3, TX3, 6)) hE.1 hP (ci := 3) rfl ((zW_at (c := 1) (by decide)).trans (congrArg (fun e => some (gA G 1, e)) (zS_1 _ _ _)))
theorem rcX6 {T : zX} {cc : ByteArray} {own : String} {fr lo cl ch : Nat} (hC : zOk T cc own fr lo cl ch) : zRecv T (zAd T 2) RX6 := by
  obtain ⟨p, l, e, R, s, m, args, below, meth, cd, Q, nL, G, mk, A, cells, slots⟩ := T
  obtain ⟨hx, hb, hml, hown, hts, hE, hA, hR, hM⟩ := hC
  intro H locs σ hP hS
  exact va_recv (q := (RX6, TX6, 2)) hE.1 hP (ci := 4) rfl ((zW_at (c := 2) (by decide)).trans (congrArg (fun e => some (gA G 2, e)) (zS_2 _ _ _)))
theorem rcX1 {T : zX} {cc : ByteArray} {own : String} {fr lo cl ch : Nat} (hC : zOk T cc own fr lo cl ch) : zRecv T (zAd T 3) RX1 := by
  obtain ⟨p, l, e, R, s, m, args, below, meth, cd, Q, nL, G, mk, A, cells, slots⟩ := T
  obtain ⟨hx, hb, hml, hown, hts, hE, hA, hR, hM⟩ := hC
  intro H locs σ hP hS
  exact va_recv (q := (RX1, TX1, 10)) hE.1 hP (ci := 1) rfl ((zW_at (c := 3) (by decide)).trans (congrArg (fun e => some (gA G 3, e)) (zS_3 _ _ _)))
theorem rcX2 {T : zX} {cc : ByteArray} {own : String} {fr lo cl ch : Nat} (hC : zOk T cc own fr lo cl ch) : zRecv T (zAd T 4) RX2 := by
  obtain ⟨p, l, e, R, s, m, args, below, meth, cd, Q, nL, G, mk, A, cells, slots⟩ := T
  obtain ⟨hx, hb, hml, hown, hts, hE, hA, hR, hM⟩ := hC
  intro H locs σ hP hS
  exact va_recv (q := (RX2, TX2, 7)) hE.1 hP (ci := 2) rfl ((zW_at (c := 4) (by decide)).trans (congrArg (fun e => some (gA G 4, e)) (zS_4 _ _ _)))
theorem rcX7 {T : zX} {cc : ByteArray} {own : String} {fr lo cl ch : Nat} (hC : zOk T cc own fr lo cl ch) : zRecv T (zAd T 5) RX7 := by
  obtain ⟨p, l, e, R, s, m, args, below, meth, cd, Q, nL, G, mk, A, cells, slots⟩ := T
  obtain ⟨hx, hb, hml, hown, hts, hE, hA, hR, hM⟩ := hC
  intro H locs σ hP hS
  exact va_recv (q := (RX7, TX7, 8)) hE.1 hP (ci := 5) rfl ((zW_at (c := 5) (by decide)).trans (congrArg (fun e => some (gA G 5, e)) (zS_5 _ _ _)))
theorem rcX9 {T : zX} {cc : ByteArray} {own : String} {fr lo cl ch : Nat} (hC : zOk T cc own fr lo cl ch) : zRecv T (zAd T 61) RX9 := by
  obtain ⟨p, l, e, R, s, m, args, below, meth, cd, Q, nL, G, mk, A, cells, slots⟩ := T
  obtain ⟨hx, hb, hml, hown, hts, hE, hA, hR, hM⟩ := hC
  intro H locs σ hP hS
  exact va_recv (q := (RX9, TX9, 44)) hE.1 hP (ci := 7) rfl ((zW_at (c := 61) (by decide)).trans (congrArg (fun e => some (gA G 61, e)) (zS_61 _ _ _)))
theorem rcX0 {T : zX} {cc : ByteArray} {own : String} {fr lo cl ch : Nat} (hC : zOk T cc own fr lo cl ch) {k : Nat} (hk : k < 10) : zRecv T (zAd T (21 + 4 * k)) RX0 := by
  obtain ⟨p, l, e, R, s, m, args, below, meth, cd, Q, nL, G, mk, A, cells, slots⟩ := T
  obtain ⟨hx, hb, hml, hown, hts, hE, hA, hR, hM⟩ := hC
  intro H locs σ hP hS
  exact va_recv (q := (RX0, TX0, 7)) hE.1 hP (ci := 0) rfl ((zW_at (c := 21 + 4 * k) (by omega)).trans (congrArg (fun e => some (gA G (21 + 4 * k), e)) ((zS_c0 G hk _ _).trans rfl)))
theorem rcJ0 {T : zX} {cc : ByteArray} {own : String} {fr lo cl ch : Nat} (hC : zOk T cc own fr lo cl ch) {i : Nat} (hi : i < 9) : zRecv T (zSk T i) RJ0 := by
  obtain ⟨p, l, e, R, s, m, args, below, meth, cd, Q, nL, G, mk, A, cells, slots⟩ := T
  obtain ⟨hx, hb, hml, hown, hts, hE, hA, hR, hM⟩ := hC
  intro H locs σ hP hS
  exact vk_recv hE.2.2.1 hi hS
theorem zS_cv {G : zGt} {k : Nat} (hk : k < 10) (f : Nat → Int32) (g : Nat → Int64) : zS G (21 + 4 * k) f g = zSc G k 0 f g := zS_c0 G hk f g
theorem zS_k1 {G : zGt} {k : Nat} (hk : k < 10) (f : Nat → Int32) (g : Nat → Int64) : zS G (21 + 4 * k + 1) f g = .inl (gC G 0, 60, .inl f) := (zS_cj G hk (by decide) f g).trans rfl
theorem zS_k2 {G : zGt} {k : Nat} (hk : k < 10) (f : Nat → Int32) (g : Nat → Int64) : zS G (21 + 4 * k + 2) f g = .inl (gC G 1, 60, .inr (.inl g)) := (zS_cj G hk (by decide) f g).trans rfl
theorem zS_k3 {G : zGt} {k : Nat} (hk : k < 10) (f : Nat → Int32) (g : Nat → Int64) : zS G (21 + 4 * k + 3) f g = .inl (gC G 0, 60, .inl f) := (zS_cj G hk (by decide) f g).trans rfl
theorem gX8_0 {T : zX} {cc : ByteArray} {own : String} {fr lo : Nat} (hC : zOk T cc own fr lo 0 61) {σ : zSt} {pc : Nat} {lv : List (Nat × Value)} {st : List Value} {index : Nat} (hw : Cond.fieldLink own index "ShutBench" "reader" "LShutBench$Reader;" ∈ zT) (d : decode cc pc = .ok (.getfield index, 3)) (kk : Z T σ (pc + 3) lv (.ref (zAd T (1)) :: st)) : Z T σ pc lv (.ref (zAd T (0)) :: st) := z_get hC (0) 0 ⟨by decide, by decide⟩ (zS_0 _ _ _) rfl inTX8 (by decide) rfl hw (.ref (zAd T (1))) rfl d kk
theorem gX8_1 {T : zX} {cc : ByteArray} {own : String} {fr lo : Nat} (hC : zOk T cc own fr lo 0 61) {σ : zSt} {pc : Nat} {lv : List (Nat × Value)} {st : List Value} {index : Nat} (hw : Cond.fieldLink own index "ShutBench" "gauge" "LShutBench$Gauge;" ∈ zT) (d : decode cc pc = .ok (.getfield index, 3)) (kk : Z T σ (pc + 3) lv (.ref (zAd T (3)) :: st)) : Z T σ pc lv (.ref (zAd T (0)) :: st) := z_get hC (0) 1 ⟨by decide, by decide⟩ (zS_0 _ _ _) rfl inTX8 (by decide) rfl hw (.ref (zAd T (3))) rfl d kk
theorem gX8_2 {T : zX} {cc : ByteArray} {own : String} {fr lo : Nat} (hC : zOk T cc own fr lo 0 61) {σ : zSt} {pc : Nat} {lv : List (Nat × Value)} {st : List Value} {index : Nat} (hw : Cond.fieldLink own index "ShutBench" "halver" "LShutBench$Halver;" ∈ zT) (d : decode cc pc = .ok (.getfield index, 3)) (kk : Z T σ (pc + 3) lv (.ref (zAd T (4)) :: st)) : Z T σ pc lv (.ref (zAd T (0)) :: st) := z_get hC (0) 2 ⟨by decide, by decide⟩ (zS_0 _ _ _) rfl inTX8 (by decide) rfl hw (.ref (zAd T (4))) rfl d kk
theorem gX8_3 {T : zX} {cc : ByteArray} {own : String} {fr lo : Nat} (hC : zOk T cc own fr lo 0 61) {σ : zSt} {pc : Nat} {lv : List (Nat × Value)} {st : List Value} {index : Nat} (hw : Cond.fieldLink own index "ShutBench" "walker" "LShutBench$Walker;" ∈ zT) (d : decode cc pc = .ok (.getfield index, 3)) (kk : Z T σ (pc + 3) lv (.ref (zAd T (5)) :: st)) : Z T σ pc lv (.ref (zAd T (0)) :: st) := z_get hC (0) 3 ⟨by decide, by decide⟩ (zS_0 _ _ _) rfl inTX8 (by decide) rfl hw (.ref (zAd T (5))) rfl d kk
theorem gX8_4 {T : zX} {cc : ByteArray} {own : String} {fr lo : Nat} (hC : zOk T cc own fr lo 0 61) {σ : zSt} {pc : Nat} {lv : List (Nat × Value)} {st : List Value} {index : Nat} (hw : Cond.fieldLink own index "ShutBench" "low" "J" ∈ zT) (v : Int64) (hv : gl σ (0) 4 = v) (d : decode cc pc = .ok (.getfield index, 3)) (kk : Z T σ (pc + 3) lv (.long v :: st)) : Z T σ pc lv (.ref (zAd T (0)) :: st) := by subst hv; exact z_get hC (0) 4 ⟨by decide, by decide⟩ (zS_0 _ _ _) rfl inTX8 (by decide) rfl hw (.long (gl σ (0) 4)) rfl d kk
theorem pX8_4 {T : zX} {cc : ByteArray} {own : String} {fr lo : Nat} (hC : zOk T cc own fr lo 0 61) {σ : zSt} {pc : Nat} {lv : List (Nat × Value)} {st : List Value} {index : Nat} {x : Int64} (hw : Cond.fieldLink own index "ShutBench" "low" "J" ∈ zT) (d : decode cc pc = .ok (.putfield index, 3)) (kk : Z T (sl σ (0) 4 x) (pc + 3) lv st) : Z T σ pc lv (.long x :: .ref (zAd T (0)) :: st) := by
  refine z_putL (ty := .long) hC (0) 4 ⟨by decide, by decide⟩ (zS_0 _ _ _) ?_ rfl inTX8 tyX8 tyX8_ok nmX8 (by decide) rfl hw rfl (tyX8_ok 4 (by decide)) rfl rfl (Nat.le_of_ble_eq_true rfl) d kk
  refine (zS_0 _ _ _).trans ?_
  simp [sl, List.set]
theorem gX8_5 {T : zX} {cc : ByteArray} {own : String} {fr lo : Nat} (hC : zOk T cc own fr lo 0 61) {σ : zSt} {pc : Nat} {lv : List (Nat × Value)} {st : List Value} {index : Nat} (hw : Cond.fieldLink own index "ShutBench" "high" "J" ∈ zT) (v : Int64) (hv : gl σ (0) 5 = v) (d : decode cc pc = .ok (.getfield index, 3)) (kk : Z T σ (pc + 3) lv (.long v :: st)) : Z T σ pc lv (.ref (zAd T (0)) :: st) := by subst hv; exact z_get hC (0) 5 ⟨by decide, by decide⟩ (zS_0 _ _ _) rfl inTX8 (by decide) rfl hw (.long (gl σ (0) 5)) rfl d kk
theorem pX8_5 {T : zX} {cc : ByteArray} {own : String} {fr lo : Nat} (hC : zOk T cc own fr lo 0 61) {σ : zSt} {pc : Nat} {lv : List (Nat × Value)} {st : List Value} {index : Nat} {x : Int64} (hw : Cond.fieldLink own index "ShutBench" "high" "J" ∈ zT) (d : decode cc pc = .ok (.putfield index, 3)) (kk : Z T (sl σ (0) 5 x) (pc + 3) lv st) : Z T σ pc lv (.long x :: .ref (zAd T (0)) :: st) := by
  refine z_putL (ty := .long) hC (0) 5 ⟨by decide, by decide⟩ (zS_0 _ _ _) ?_ rfl inTX8 tyX8 tyX8_ok nmX8 (by decide) rfl hw rfl (tyX8_ok 5 (by decide)) rfl rfl (Nat.le_of_ble_eq_true rfl) d kk
  refine (zS_0 _ _ _).trans ?_
  simp [sl, List.set]
theorem gX8_6 {T : zX} {cc : ByteArray} {own : String} {fr lo : Nat} (hC : zOk T cc own fr lo 0 61) {σ : zSt} {pc : Nat} {lv : List (Nat × Value)} {st : List Value} {index : Nat} (hw : Cond.fieldLink own index "ShutBench" "partCount" "I" ∈ zT) (v : Int32) (hv : gi σ (0) 6 = v) (d : decode cc pc = .ok (.getfield index, 3)) (kk : Z T σ (pc + 3) lv (.int v :: st)) : Z T σ pc lv (.ref (zAd T (0)) :: st) := by subst hv; exact z_get hC (0) 6 ⟨by decide, by decide⟩ (zS_0 _ _ _) rfl inTX8 (by decide) rfl hw (.int (gi σ (0) 6)) rfl d kk
theorem pX8_6 {T : zX} {cc : ByteArray} {own : String} {fr lo : Nat} (hC : zOk T cc own fr lo 0 61) {σ : zSt} {pc : Nat} {lv : List (Nat × Value)} {st : List Value} {index : Nat} {x : Int32} (hw : Cond.fieldLink own index "ShutBench" "partCount" "I" ∈ zT) (d : decode cc pc = .ok (.putfield index, 3)) (kk : Z T (si σ (0) 6 x) (pc + 3) lv st) : Z T σ pc lv (.int x :: .ref (zAd T (0)) :: st) := by
  refine z_putI (ty := .int) hC (0) 6 ⟨by decide, by decide⟩ (zS_0 _ _ _) ?_ rfl inTX8 tyX8 tyX8_ok nmX8 (by decide) rfl hw rfl (tyX8_ok 6 (by decide)) rfl rfl (Nat.le_of_ble_eq_true rfl) d kk
  refine (zS_0 _ _ _).trans ?_
  simp [si, List.set]
theorem gX8_7 {T : zX} {cc : ByteArray} {own : String} {fr lo : Nat} (hC : zOk T cc own fr lo 0 61) {σ : zSt} {pc : Nat} {lv : List (Nat × Value)} {st : List Value} {index : Nat} (hw : Cond.fieldLink own index "ShutBench" "lookCount" "I" ∈ zT) (v : Int32) (hv : gi σ (0) 7 = v) (d : decode cc pc = .ok (.getfield index, 3)) (kk : Z T σ (pc + 3) lv (.int v :: st)) : Z T σ pc lv (.ref (zAd T (0)) :: st) := by subst hv; exact z_get hC (0) 7 ⟨by decide, by decide⟩ (zS_0 _ _ _) rfl inTX8 (by decide) rfl hw (.int (gi σ (0) 7)) rfl d kk
theorem pX8_7 {T : zX} {cc : ByteArray} {own : String} {fr lo : Nat} (hC : zOk T cc own fr lo 0 61) {σ : zSt} {pc : Nat} {lv : List (Nat × Value)} {st : List Value} {index : Nat} {x : Int32} (hw : Cond.fieldLink own index "ShutBench" "lookCount" "I" ∈ zT) (d : decode cc pc = .ok (.putfield index, 3)) (kk : Z T (si σ (0) 7 x) (pc + 3) lv st) : Z T σ pc lv (.int x :: .ref (zAd T (0)) :: st) := by
  refine z_putI (ty := .int) hC (0) 7 ⟨by decide, by decide⟩ (zS_0 _ _ _) ?_ rfl inTX8 tyX8 tyX8_ok nmX8 (by decide) rfl hw rfl (tyX8_ok 7 (by decide)) rfl rfl (Nat.le_of_ble_eq_true rfl) d kk
  refine (zS_0 _ _ _).trans ?_
  simp [si, List.set]
theorem gX3_0 {T : zX} {cc : ByteArray} {own : String} {fr lo : Nat} (hC : zOk T cc own fr lo 0 61) {σ : zSt} {pc : Nat} {lv : List (Nat × Value)} {st : List Value} {index : Nat} (hw : Cond.fieldLink own index "ShutBench$Reader" "tape" "LShutBench$Tape;" ∈ zT) (d : decode cc pc = .ok (.getfield index, 3)) (kk : Z T σ (pc + 3) lv (.ref (zAd T (2)) :: st)) : Z T σ pc lv (.ref (zAd T (1)) :: st) := z_get hC (1) 0 ⟨by decide, by decide⟩ (zS_1 _ _ _) rfl inTX3 (by decide) rfl hw (.ref (zAd T (2))) rfl d kk
theorem gX3_1 {T : zX} {cc : ByteArray} {own : String} {fr lo : Nat} (hC : zOk T cc own fr lo 0 61) {σ : zSt} {pc : Nat} {lv : List (Nat × Value)} {st : List Value} {index : Nat} (hw : Cond.fieldLink own index "ShutBench$Reader" "draft" "LShutBench$Curve;" ∈ zT) (d : decode cc pc = .ok (.getfield index, 3)) (kk : Z T σ (pc + 3) lv (.ref (zAd T (21 + 4 * 9)) :: st)) : Z T σ pc lv (.ref (zAd T (1)) :: st) := z_get hC (1) 1 ⟨by decide, by decide⟩ (zS_1 _ _ _) rfl inTX3 (by decide) rfl hw (.ref (zAd T (21 + 4 * 9))) rfl d kk
theorem gX3_2 {T : zX} {cc : ByteArray} {own : String} {fr lo : Nat} (hC : zOk T cc own fr lo 0 61) {σ : zSt} {pc : Nat} {lv : List (Nat × Value)} {st : List Value} {index : Nat} (hw : Cond.fieldLink own index "ShutBench$Reader" "place" "I" ∈ zT) (v : Int32) (hv : gi σ (1) 2 = v) (d : decode cc pc = .ok (.getfield index, 3)) (kk : Z T σ (pc + 3) lv (.int v :: st)) : Z T σ pc lv (.ref (zAd T (1)) :: st) := by subst hv; exact z_get hC (1) 2 ⟨by decide, by decide⟩ (zS_1 _ _ _) rfl inTX3 (by decide) rfl hw (.int (gi σ (1) 2)) rfl d kk
theorem pX3_2 {T : zX} {cc : ByteArray} {own : String} {fr lo : Nat} (hC : zOk T cc own fr lo 0 61) {σ : zSt} {pc : Nat} {lv : List (Nat × Value)} {st : List Value} {index : Nat} {x : Int32} (hw : Cond.fieldLink own index "ShutBench$Reader" "place" "I" ∈ zT) (d : decode cc pc = .ok (.putfield index, 3)) (kk : Z T (si σ (1) 2 x) (pc + 3) lv st) : Z T σ pc lv (.int x :: .ref (zAd T (1)) :: st) := by
  refine z_putI (ty := .int) hC (1) 2 ⟨by decide, by decide⟩ (zS_1 _ _ _) ?_ rfl inTX3 tyX3 tyX3_ok nmX3 (by decide) rfl hw rfl (tyX3_ok 2 (by decide)) rfl rfl (Nat.le_of_ble_eq_true rfl) d kk
  refine (zS_1 _ _ _).trans ?_
  simp [si, List.set]
theorem gX3_3 {T : zX} {cc : ByteArray} {own : String} {fr lo : Nat} (hC : zOk T cc own fr lo 0 61) {σ : zSt} {pc : Nat} {lv : List (Nat × Value)} {st : List Value} {index : Nat} (hw : Cond.fieldLink own index "ShutBench$Reader" "met" "I" ∈ zT) (v : Int32) (hv : gi σ (1) 3 = v) (d : decode cc pc = .ok (.getfield index, 3)) (kk : Z T σ (pc + 3) lv (.int v :: st)) : Z T σ pc lv (.ref (zAd T (1)) :: st) := by subst hv; exact z_get hC (1) 3 ⟨by decide, by decide⟩ (zS_1 _ _ _) rfl inTX3 (by decide) rfl hw (.int (gi σ (1) 3)) rfl d kk
theorem pX3_3 {T : zX} {cc : ByteArray} {own : String} {fr lo : Nat} (hC : zOk T cc own fr lo 0 61) {σ : zSt} {pc : Nat} {lv : List (Nat × Value)} {st : List Value} {index : Nat} {x : Int32} (hw : Cond.fieldLink own index "ShutBench$Reader" "met" "I" ∈ zT) (d : decode cc pc = .ok (.putfield index, 3)) (kk : Z T (si σ (1) 3 x) (pc + 3) lv st) : Z T σ pc lv (.int x :: .ref (zAd T (1)) :: st) := by
  refine z_putI (ty := .int) hC (1) 3 ⟨by decide, by decide⟩ (zS_1 _ _ _) ?_ rfl inTX3 tyX3 tyX3_ok nmX3 (by decide) rfl hw rfl (tyX3_ok 3 (by decide)) rfl rfl (Nat.le_of_ble_eq_true rfl) d kk
  refine (zS_1 _ _ _).trans ?_
  simp [si, List.set]
theorem gX3_4 {T : zX} {cc : ByteArray} {own : String} {fr lo : Nat} (hC : zOk T cc own fr lo 0 61) {σ : zSt} {pc : Nat} {lv : List (Nat × Value)} {st : List Value} {index : Nat} (hw : Cond.fieldLink own index "ShutBench$Reader" "fault" "I" ∈ zT) (v : Int32) (hv : gi σ (1) 4 = v) (d : decode cc pc = .ok (.getfield index, 3)) (kk : Z T σ (pc + 3) lv (.int v :: st)) : Z T σ pc lv (.ref (zAd T (1)) :: st) := by subst hv; exact z_get hC (1) 4 ⟨by decide, by decide⟩ (zS_1 _ _ _) rfl inTX3 (by decide) rfl hw (.int (gi σ (1) 4)) rfl d kk
theorem pX3_4 {T : zX} {cc : ByteArray} {own : String} {fr lo : Nat} (hC : zOk T cc own fr lo 0 61) {σ : zSt} {pc : Nat} {lv : List (Nat × Value)} {st : List Value} {index : Nat} {x : Int32} (hw : Cond.fieldLink own index "ShutBench$Reader" "fault" "I" ∈ zT) (d : decode cc pc = .ok (.putfield index, 3)) (kk : Z T (si σ (1) 4 x) (pc + 3) lv st) : Z T σ pc lv (.int x :: .ref (zAd T (1)) :: st) := by
  refine z_putI (ty := .int) hC (1) 4 ⟨by decide, by decide⟩ (zS_1 _ _ _) ?_ rfl inTX3 tyX3 tyX3_ok nmX3 (by decide) rfl hw rfl (tyX3_ok 4 (by decide)) rfl rfl (Nat.le_of_ble_eq_true rfl) d kk
  refine (zS_1 _ _ _).trans ?_
  simp [si, List.set]
theorem gX3_5 {T : zX} {cc : ByteArray} {own : String} {fr lo : Nat} (hC : zOk T cc own fr lo 0 61) {σ : zSt} {pc : Nat} {lv : List (Nat × Value)} {st : List Value} {index : Nat} (hw : Cond.fieldLink own index "ShutBench$Reader" "known" "I" ∈ zT) (v : Int32) (hv : gi σ (1) 5 = v) (d : decode cc pc = .ok (.getfield index, 3)) (kk : Z T σ (pc + 3) lv (.int v :: st)) : Z T σ pc lv (.ref (zAd T (1)) :: st) := by subst hv; exact z_get hC (1) 5 ⟨by decide, by decide⟩ (zS_1 _ _ _) rfl inTX3 (by decide) rfl hw (.int (gi σ (1) 5)) rfl d kk
theorem pX3_5 {T : zX} {cc : ByteArray} {own : String} {fr lo : Nat} (hC : zOk T cc own fr lo 0 61) {σ : zSt} {pc : Nat} {lv : List (Nat × Value)} {st : List Value} {index : Nat} {x : Int32} (hw : Cond.fieldLink own index "ShutBench$Reader" "known" "I" ∈ zT) (d : decode cc pc = .ok (.putfield index, 3)) (kk : Z T (si σ (1) 5 x) (pc + 3) lv st) : Z T σ pc lv (.int x :: .ref (zAd T (1)) :: st) := by
  refine z_putI (ty := .int) hC (1) 5 ⟨by decide, by decide⟩ (zS_1 _ _ _) ?_ rfl inTX3 tyX3 tyX3_ok nmX3 (by decide) rfl hw rfl (tyX3_ok 5 (by decide)) rfl rfl (Nat.le_of_ble_eq_true rfl) d kk
  refine (zS_1 _ _ _).trans ?_
  simp [si, List.set]
theorem gX6_0 {T : zX} {cc : ByteArray} {own : String} {fr lo : Nat} (hC : zOk T cc own fr lo 0 61) {σ : zSt} {pc : Nat} {lv : List (Nat × Value)} {st : List Value} {index : Nat} (hw : Cond.fieldLink own index "ShutBench$Tape" "bytes" "[I" ∈ zT) (d : decode cc pc = .ok (.getfield index, 3)) (kk : Z T σ (pc + 3) lv (.ref (zAd T (6)) :: st)) : Z T σ pc lv (.ref (zAd T (2)) :: st) := z_get hC (2) 0 ⟨by decide, by decide⟩ (zS_2 _ _ _) rfl inTX6 (by decide) rfl hw (.ref (zAd T (6))) rfl d kk
theorem gX6_1 {T : zX} {cc : ByteArray} {own : String} {fr lo : Nat} (hC : zOk T cc own fr lo 0 61) {σ : zSt} {pc : Nat} {lv : List (Nat × Value)} {st : List Value} {index : Nat} (hw : Cond.fieldLink own index "ShutBench$Tape" "size" "I" ∈ zT) (v : Int32) (hv : gi σ (2) 1 = v) (d : decode cc pc = .ok (.getfield index, 3)) (kk : Z T σ (pc + 3) lv (.int v :: st)) : Z T σ pc lv (.ref (zAd T (2)) :: st) := by subst hv; exact z_get hC (2) 1 ⟨by decide, by decide⟩ (zS_2 _ _ _) rfl inTX6 (by decide) rfl hw (.int (gi σ (2) 1)) rfl d kk
theorem pX6_1 {T : zX} {cc : ByteArray} {own : String} {fr lo : Nat} (hC : zOk T cc own fr lo 0 61) {σ : zSt} {pc : Nat} {lv : List (Nat × Value)} {st : List Value} {index : Nat} {x : Int32} (hw : Cond.fieldLink own index "ShutBench$Tape" "size" "I" ∈ zT) (d : decode cc pc = .ok (.putfield index, 3)) (kk : Z T (si σ (2) 1 x) (pc + 3) lv st) : Z T σ pc lv (.int x :: .ref (zAd T (2)) :: st) := by
  refine z_putI (ty := .int) hC (2) 1 ⟨by decide, by decide⟩ (zS_2 _ _ _) ?_ rfl inTX6 tyX6 tyX6_ok nmX6 (by decide) rfl hw rfl (tyX6_ok 1 (by decide)) rfl rfl (Nat.le_of_ble_eq_true rfl) d kk
  refine (zS_2 _ _ _).trans ?_
  simp [si, List.set]
theorem gX1_0 {T : zX} {cc : ByteArray} {own : String} {fr lo : Nat} (hC : zOk T cc own fr lo 0 61) {σ : zSt} {pc : Nat} {lv : List (Nat × Value)} {st : List Value} {index : Nat} (hw : Cond.fieldLink own index "ShutBench$Gauge" "curves" "[LShutBench$Curve;" ∈ zT) (d : decode cc pc = .ok (.getfield index, 3)) (kk : Z T σ (pc + 3) lv (.ref (zAd T (7)) :: st)) : Z T σ pc lv (.ref (zAd T (3)) :: st) := z_get hC (3) 0 ⟨by decide, by decide⟩ (zS_3 _ _ _) rfl inTX1 (by decide) rfl hw (.ref (zAd T (7))) rfl d kk
theorem gX1_1 {T : zX} {cc : ByteArray} {own : String} {fr lo : Nat} (hC : zOk T cc own fr lo 0 61) {σ : zSt} {pc : Nat} {lv : List (Nat × Value)} {st : List Value} {index : Nat} (hw : Cond.fieldLink own index "ShutBench$Gauge" "none" "LShutBench$Curve;" ∈ zT) (d : decode cc pc = .ok (.getfield index, 3)) (kk : Z T σ (pc + 3) lv (.ref (zAd T (21 + 4 * 8)) :: st)) : Z T σ pc lv (.ref (zAd T (3)) :: st) := z_get hC (3) 1 ⟨by decide, by decide⟩ (zS_3 _ _ _) rfl inTX1 (by decide) rfl hw (.ref (zAd T (21 + 4 * 8))) rfl d kk
theorem gX1_2 {T : zX} {cc : ByteArray} {own : String} {fr lo : Nat} (hC : zOk T cc own fr lo 0 61) {σ : zSt} {pc : Nat} {lv : List (Nat × Value)} {st : List Value} {index : Nat} (hw : Cond.fieldLink own index "ShutBench$Gauge" "degrees" "[I" ∈ zT) (d : decode cc pc = .ok (.getfield index, 3)) (kk : Z T σ (pc + 3) lv (.ref (zAd T (8)) :: st)) : Z T σ pc lv (.ref (zAd T (3)) :: st) := z_get hC (3) 2 ⟨by decide, by decide⟩ (zS_3 _ _ _) rfl inTX1 (by decide) rfl hw (.ref (zAd T (8))) rfl d kk
theorem gX1_3 {T : zX} {cc : ByteArray} {own : String} {fr lo : Nat} (hC : zOk T cc own fr lo 0 61) {σ : zSt} {pc : Nat} {lv : List (Nat × Value)} {st : List Value} {index : Nat} (hw : Cond.fieldLink own index "ShutBench$Gauge" "values" "[J" ∈ zT) (d : decode cc pc = .ok (.getfield index, 3)) (kk : Z T σ (pc + 3) lv (.ref (zAd T (9)) :: st)) : Z T σ pc lv (.ref (zAd T (3)) :: st) := z_get hC (3) 3 ⟨by decide, by decide⟩ (zS_3 _ _ _) rfl inTX1 (by decide) rfl hw (.ref (zAd T (9))) rfl d kk
theorem gX1_4 {T : zX} {cc : ByteArray} {own : String} {fr lo : Nat} (hC : zOk T cc own fr lo 0 61) {σ : zSt} {pc : Nat} {lv : List (Nat × Value)} {st : List Value} {index : Nat} (hw : Cond.fieldLink own index "ShutBench$Gauge" "leans" "[J" ∈ zT) (d : decode cc pc = .ok (.getfield index, 3)) (kk : Z T σ (pc + 3) lv (.ref (zAd T (10)) :: st)) : Z T σ pc lv (.ref (zAd T (3)) :: st) := z_get hC (3) 4 ⟨by decide, by decide⟩ (zS_3 _ _ _) rfl inTX1 (by decide) rfl hw (.ref (zAd T (10))) rfl d kk
theorem gX1_5 {T : zX} {cc : ByteArray} {own : String} {fr lo : Nat} (hC : zOk T cc own fr lo 0 61) {σ : zSt} {pc : Nat} {lv : List (Nat × Value)} {st : List Value} {index : Nat} (hw : Cond.fieldLink own index "ShutBench$Gauge" "curveValues" "[J" ∈ zT) (d : decode cc pc = .ok (.getfield index, 3)) (kk : Z T σ (pc + 3) lv (.ref (zAd T (11)) :: st)) : Z T σ pc lv (.ref (zAd T (3)) :: st) := z_get hC (3) 5 ⟨by decide, by decide⟩ (zS_3 _ _ _) rfl inTX1 (by decide) rfl hw (.ref (zAd T (11))) rfl d kk
theorem gX1_6 {T : zX} {cc : ByteArray} {own : String} {fr lo : Nat} (hC : zOk T cc own fr lo 0 61) {σ : zSt} {pc : Nat} {lv : List (Nat × Value)} {st : List Value} {index : Nat} (hw : Cond.fieldLink own index "ShutBench$Gauge" "curveLeans" "[J" ∈ zT) (d : decode cc pc = .ok (.getfield index, 3)) (kk : Z T σ (pc + 3) lv (.ref (zAd T (12)) :: st)) : Z T σ pc lv (.ref (zAd T (3)) :: st) := z_get hC (3) 6 ⟨by decide, by decide⟩ (zS_3 _ _ _) rfl inTX1 (by decide) rfl hw (.ref (zAd T (12))) rfl d kk
theorem gX1_7 {T : zX} {cc : ByteArray} {own : String} {fr lo : Nat} (hC : zOk T cc own fr lo 0 61) {σ : zSt} {pc : Nat} {lv : List (Nat × Value)} {st : List Value} {index : Nat} (hw : Cond.fieldLink own index "ShutBench$Gauge" "span" "J" ∈ zT) (v : Int64) (hv : gl σ (3) 7 = v) (d : decode cc pc = .ok (.getfield index, 3)) (kk : Z T σ (pc + 3) lv (.long v :: st)) : Z T σ pc lv (.ref (zAd T (3)) :: st) := by subst hv; exact z_get hC (3) 7 ⟨by decide, by decide⟩ (zS_3 _ _ _) rfl inTX1 (by decide) rfl hw (.long (gl σ (3) 7)) rfl d kk
theorem pX1_7 {T : zX} {cc : ByteArray} {own : String} {fr lo : Nat} (hC : zOk T cc own fr lo 0 61) {σ : zSt} {pc : Nat} {lv : List (Nat × Value)} {st : List Value} {index : Nat} {x : Int64} (hw : Cond.fieldLink own index "ShutBench$Gauge" "span" "J" ∈ zT) (d : decode cc pc = .ok (.putfield index, 3)) (kk : Z T (sl σ (3) 7 x) (pc + 3) lv st) : Z T σ pc lv (.long x :: .ref (zAd T (3)) :: st) := by
  refine z_putL (ty := .long) hC (3) 7 ⟨by decide, by decide⟩ (zS_3 _ _ _) ?_ rfl inTX1 tyX1 tyX1_ok nmX1 (by decide) rfl hw rfl (tyX1_ok 7 (by decide)) rfl rfl (Nat.le_of_ble_eq_true rfl) d kk
  refine (zS_3 _ _ _).trans ?_
  simp [sl, List.set]
theorem gX1_8 {T : zX} {cc : ByteArray} {own : String} {fr lo : Nat} (hC : zOk T cc own fr lo 0 61) {σ : zSt} {pc : Nat} {lv : List (Nat × Value)} {st : List Value} {index : Nat} (hw : Cond.fieldLink own index "ShutBench$Gauge" "curveCount" "I" ∈ zT) (v : Int32) (hv : gi σ (3) 8 = v) (d : decode cc pc = .ok (.getfield index, 3)) (kk : Z T σ (pc + 3) lv (.int v :: st)) : Z T σ pc lv (.ref (zAd T (3)) :: st) := by subst hv; exact z_get hC (3) 8 ⟨by decide, by decide⟩ (zS_3 _ _ _) rfl inTX1 (by decide) rfl hw (.int (gi σ (3) 8)) rfl d kk
theorem pX1_8 {T : zX} {cc : ByteArray} {own : String} {fr lo : Nat} (hC : zOk T cc own fr lo 0 61) {σ : zSt} {pc : Nat} {lv : List (Nat × Value)} {st : List Value} {index : Nat} {x : Int32} (hw : Cond.fieldLink own index "ShutBench$Gauge" "curveCount" "I" ∈ zT) (d : decode cc pc = .ok (.putfield index, 3)) (kk : Z T (si σ (3) 8 x) (pc + 3) lv st) : Z T σ pc lv (.int x :: .ref (zAd T (3)) :: st) := by
  refine z_putI (ty := .int) hC (3) 8 ⟨by decide, by decide⟩ (zS_3 _ _ _) ?_ rfl inTX1 tyX1 tyX1_ok nmX1 (by decide) rfl hw rfl (tyX1_ok 8 (by decide)) rfl rfl (Nat.le_of_ble_eq_true rfl) d kk
  refine (zS_3 _ _ _).trans ?_
  simp [si, List.set]
theorem gX1_9 {T : zX} {cc : ByteArray} {own : String} {fr lo : Nat} (hC : zOk T cc own fr lo 0 61) {σ : zSt} {pc : Nat} {lv : List (Nat × Value)} {st : List Value} {index : Nat} (hw : Cond.fieldLink own index "ShutBench$Gauge" "steepness" "J" ∈ zT) (v : Int64) (hv : gl σ (3) 9 = v) (d : decode cc pc = .ok (.getfield index, 3)) (kk : Z T σ (pc + 3) lv (.long v :: st)) : Z T σ pc lv (.ref (zAd T (3)) :: st) := by subst hv; exact z_get hC (3) 9 ⟨by decide, by decide⟩ (zS_3 _ _ _) rfl inTX1 (by decide) rfl hw (.long (gl σ (3) 9)) rfl d kk
theorem pX1_9 {T : zX} {cc : ByteArray} {own : String} {fr lo : Nat} (hC : zOk T cc own fr lo 0 61) {σ : zSt} {pc : Nat} {lv : List (Nat × Value)} {st : List Value} {index : Nat} {x : Int64} (hw : Cond.fieldLink own index "ShutBench$Gauge" "steepness" "J" ∈ zT) (d : decode cc pc = .ok (.putfield index, 3)) (kk : Z T (sl σ (3) 9 x) (pc + 3) lv st) : Z T σ pc lv (.long x :: .ref (zAd T (3)) :: st) := by
  refine z_putL (ty := .long) hC (3) 9 ⟨by decide, by decide⟩ (zS_3 _ _ _) ?_ rfl inTX1 tyX1 tyX1_ok nmX1 (by decide) rfl hw rfl (tyX1_ok 9 (by decide)) rfl rfl (Nat.le_of_ble_eq_true rfl) d kk
  refine (zS_3 _ _ _).trans ?_
  simp [sl, List.set]
theorem gX2_0 {T : zX} {cc : ByteArray} {own : String} {fr lo : Nat} (hC : zOk T cc own fr lo 0 61) {σ : zSt} {pc : Nat} {lv : List (Nat × Value)} {st : List Value} {index : Nat} (hw : Cond.fieldLink own index "ShutBench$Halver" "begins" "[I" ∈ zT) (d : decode cc pc = .ok (.getfield index, 3)) (kk : Z T σ (pc + 3) lv (.ref (zAd T (13)) :: st)) : Z T σ pc lv (.ref (zAd T (4)) :: st) := z_get hC (4) 0 ⟨by decide, by decide⟩ (zS_4 _ _ _) rfl inTX2 (by decide) rfl hw (.ref (zAd T (13))) rfl d kk
theorem gX2_1 {T : zX} {cc : ByteArray} {own : String} {fr lo : Nat} (hC : zOk T cc own fr lo 0 61) {σ : zSt} {pc : Nat} {lv : List (Nat × Value)} {st : List Value} {index : Nat} (hw : Cond.fieldLink own index "ShutBench$Halver" "ends" "[I" ∈ zT) (d : decode cc pc = .ok (.getfield index, 3)) (kk : Z T σ (pc + 3) lv (.ref (zAd T (14)) :: st)) : Z T σ pc lv (.ref (zAd T (4)) :: st) := z_get hC (4) 1 ⟨by decide, by decide⟩ (zS_4 _ _ _) rfl inTX2 (by decide) rfl hw (.ref (zAd T (14))) rfl d kk
theorem gX2_2 {T : zX} {cc : ByteArray} {own : String} {fr lo : Nat} (hC : zOk T cc own fr lo 0 61) {σ : zSt} {pc : Nat} {lv : List (Nat × Value)} {st : List Value} {index : Nat} (hw : Cond.fieldLink own index "ShutBench$Halver" "lows" "[J" ∈ zT) (d : decode cc pc = .ok (.getfield index, 3)) (kk : Z T σ (pc + 3) lv (.ref (zAd T (15)) :: st)) : Z T σ pc lv (.ref (zAd T (4)) :: st) := z_get hC (4) 2 ⟨by decide, by decide⟩ (zS_4 _ _ _) rfl inTX2 (by decide) rfl hw (.ref (zAd T (15))) rfl d kk
theorem gX2_3 {T : zX} {cc : ByteArray} {own : String} {fr lo : Nat} (hC : zOk T cc own fr lo 0 61) {σ : zSt} {pc : Nat} {lv : List (Nat × Value)} {st : List Value} {index : Nat} (hw : Cond.fieldLink own index "ShutBench$Halver" "highs" "[J" ∈ zT) (d : decode cc pc = .ok (.getfield index, 3)) (kk : Z T σ (pc + 3) lv (.ref (zAd T (16)) :: st)) : Z T σ pc lv (.ref (zAd T (4)) :: st) := z_get hC (4) 3 ⟨by decide, by decide⟩ (zS_4 _ _ _) rfl inTX2 (by decide) rfl hw (.ref (zAd T (16))) rfl d kk
theorem gX2_4 {T : zX} {cc : ByteArray} {own : String} {fr lo : Nat} (hC : zOk T cc own fr lo 0 61) {σ : zSt} {pc : Nat} {lv : List (Nat × Value)} {st : List Value} {index : Nat} (hw : Cond.fieldLink own index "ShutBench$Halver" "parts" "I" ∈ zT) (v : Int32) (hv : gi σ (4) 4 = v) (d : decode cc pc = .ok (.getfield index, 3)) (kk : Z T σ (pc + 3) lv (.int v :: st)) : Z T σ pc lv (.ref (zAd T (4)) :: st) := by subst hv; exact z_get hC (4) 4 ⟨by decide, by decide⟩ (zS_4 _ _ _) rfl inTX2 (by decide) rfl hw (.int (gi σ (4) 4)) rfl d kk
theorem pX2_4 {T : zX} {cc : ByteArray} {own : String} {fr lo : Nat} (hC : zOk T cc own fr lo 0 61) {σ : zSt} {pc : Nat} {lv : List (Nat × Value)} {st : List Value} {index : Nat} {x : Int32} (hw : Cond.fieldLink own index "ShutBench$Halver" "parts" "I" ∈ zT) (d : decode cc pc = .ok (.putfield index, 3)) (kk : Z T (si σ (4) 4 x) (pc + 3) lv st) : Z T σ pc lv (.int x :: .ref (zAd T (4)) :: st) := by
  refine z_putI (ty := .int) hC (4) 4 ⟨by decide, by decide⟩ (zS_4 _ _ _) ?_ rfl inTX2 tyX2 tyX2_ok nmX2 (by decide) rfl hw rfl (tyX2_ok 4 (by decide)) rfl rfl (Nat.le_of_ble_eq_true rfl) d kk
  refine (zS_4 _ _ _).trans ?_
  simp [si, List.set]
theorem gX2_5 {T : zX} {cc : ByteArray} {own : String} {fr lo : Nat} (hC : zOk T cc own fr lo 0 61) {σ : zSt} {pc : Nat} {lv : List (Nat × Value)} {st : List Value} {index : Nat} (hw : Cond.fieldLink own index "ShutBench$Halver" "foundLow" "J" ∈ zT) (v : Int64) (hv : gl σ (4) 5 = v) (d : decode cc pc = .ok (.getfield index, 3)) (kk : Z T σ (pc + 3) lv (.long v :: st)) : Z T σ pc lv (.ref (zAd T (4)) :: st) := by subst hv; exact z_get hC (4) 5 ⟨by decide, by decide⟩ (zS_4 _ _ _) rfl inTX2 (by decide) rfl hw (.long (gl σ (4) 5)) rfl d kk
theorem pX2_5 {T : zX} {cc : ByteArray} {own : String} {fr lo : Nat} (hC : zOk T cc own fr lo 0 61) {σ : zSt} {pc : Nat} {lv : List (Nat × Value)} {st : List Value} {index : Nat} {x : Int64} (hw : Cond.fieldLink own index "ShutBench$Halver" "foundLow" "J" ∈ zT) (d : decode cc pc = .ok (.putfield index, 3)) (kk : Z T (sl σ (4) 5 x) (pc + 3) lv st) : Z T σ pc lv (.long x :: .ref (zAd T (4)) :: st) := by
  refine z_putL (ty := .long) hC (4) 5 ⟨by decide, by decide⟩ (zS_4 _ _ _) ?_ rfl inTX2 tyX2 tyX2_ok nmX2 (by decide) rfl hw rfl (tyX2_ok 5 (by decide)) rfl rfl (Nat.le_of_ble_eq_true rfl) d kk
  refine (zS_4 _ _ _).trans ?_
  simp [sl, List.set]
theorem gX2_6 {T : zX} {cc : ByteArray} {own : String} {fr lo : Nat} (hC : zOk T cc own fr lo 0 61) {σ : zSt} {pc : Nat} {lv : List (Nat × Value)} {st : List Value} {index : Nat} (hw : Cond.fieldLink own index "ShutBench$Halver" "foundHigh" "J" ∈ zT) (v : Int64) (hv : gl σ (4) 6 = v) (d : decode cc pc = .ok (.getfield index, 3)) (kk : Z T σ (pc + 3) lv (.long v :: st)) : Z T σ pc lv (.ref (zAd T (4)) :: st) := by subst hv; exact z_get hC (4) 6 ⟨by decide, by decide⟩ (zS_4 _ _ _) rfl inTX2 (by decide) rfl hw (.long (gl σ (4) 6)) rfl d kk
theorem pX2_6 {T : zX} {cc : ByteArray} {own : String} {fr lo : Nat} (hC : zOk T cc own fr lo 0 61) {σ : zSt} {pc : Nat} {lv : List (Nat × Value)} {st : List Value} {index : Nat} {x : Int64} (hw : Cond.fieldLink own index "ShutBench$Halver" "foundHigh" "J" ∈ zT) (d : decode cc pc = .ok (.putfield index, 3)) (kk : Z T (sl σ (4) 6 x) (pc + 3) lv st) : Z T σ pc lv (.long x :: .ref (zAd T (4)) :: st) := by
  refine z_putL (ty := .long) hC (4) 6 ⟨by decide, by decide⟩ (zS_4 _ _ _) ?_ rfl inTX2 tyX2 tyX2_ok nmX2 (by decide) rfl hw rfl (tyX2_ok 6 (by decide)) rfl rfl (Nat.le_of_ble_eq_true rfl) d kk
  refine (zS_4 _ _ _).trans ?_
  simp [sl, List.set]
theorem gX7_0 {T : zX} {cc : ByteArray} {own : String} {fr lo : Nat} (hC : zOk T cc own fr lo 0 61) {σ : zSt} {pc : Nat} {lv : List (Nat × Value)} {st : List Value} {index : Nat} (hw : Cond.fieldLink own index "ShutBench$Walker" "waitingEnds" "[I" ∈ zT) (d : decode cc pc = .ok (.getfield index, 3)) (kk : Z T σ (pc + 3) lv (.ref (zAd T (17)) :: st)) : Z T σ pc lv (.ref (zAd T (5)) :: st) := z_get hC (5) 0 ⟨by decide, by decide⟩ (zS_5 _ _ _) rfl inTX7 (by decide) rfl hw (.ref (zAd T (17))) rfl d kk
theorem gX7_1 {T : zX} {cc : ByteArray} {own : String} {fr lo : Nat} (hC : zOk T cc own fr lo 0 61) {σ : zSt} {pc : Nat} {lv : List (Nat × Value)} {st : List Value} {index : Nat} (hw : Cond.fieldLink own index "ShutBench$Walker" "begins" "[I" ∈ zT) (d : decode cc pc = .ok (.getfield index, 3)) (kk : Z T σ (pc + 3) lv (.ref (zAd T (18)) :: st)) : Z T σ pc lv (.ref (zAd T (5)) :: st) := z_get hC (5) 1 ⟨by decide, by decide⟩ (zS_5 _ _ _) rfl inTX7 (by decide) rfl hw (.ref (zAd T (18))) rfl d kk
theorem gX7_2 {T : zX} {cc : ByteArray} {own : String} {fr lo : Nat} (hC : zOk T cc own fr lo 0 61) {σ : zSt} {pc : Nat} {lv : List (Nat × Value)} {st : List Value} {index : Nat} (hw : Cond.fieldLink own index "ShutBench$Walker" "ends" "[I" ∈ zT) (d : decode cc pc = .ok (.getfield index, 3)) (kk : Z T σ (pc + 3) lv (.ref (zAd T (19)) :: st)) : Z T σ pc lv (.ref (zAd T (5)) :: st) := z_get hC (5) 2 ⟨by decide, by decide⟩ (zS_5 _ _ _) rfl inTX7 (by decide) rfl hw (.ref (zAd T (19))) rfl d kk
theorem gX7_3 {T : zX} {cc : ByteArray} {own : String} {fr lo : Nat} (hC : zOk T cc own fr lo 0 61) {σ : zSt} {pc : Nat} {lv : List (Nat × Value)} {st : List Value} {index : Nat} (hw : Cond.fieldLink own index "ShutBench$Walker" "whats" "[I" ∈ zT) (d : decode cc pc = .ok (.getfield index, 3)) (kk : Z T σ (pc + 3) lv (.ref (zAd T (20)) :: st)) : Z T σ pc lv (.ref (zAd T (5)) :: st) := z_get hC (5) 3 ⟨by decide, by decide⟩ (zS_5 _ _ _) rfl inTX7 (by decide) rfl hw (.ref (zAd T (20))) rfl d kk
theorem gX7_4 {T : zX} {cc : ByteArray} {own : String} {fr lo : Nat} (hC : zOk T cc own fr lo 0 61) {σ : zSt} {pc : Nat} {lv : List (Nat × Value)} {st : List Value} {index : Nat} (hw : Cond.fieldLink own index "ShutBench$Walker" "waiting" "I" ∈ zT) (v : Int32) (hv : gi σ (5) 4 = v) (d : decode cc pc = .ok (.getfield index, 3)) (kk : Z T σ (pc + 3) lv (.int v :: st)) : Z T σ pc lv (.ref (zAd T (5)) :: st) := by subst hv; exact z_get hC (5) 4 ⟨by decide, by decide⟩ (zS_5 _ _ _) rfl inTX7 (by decide) rfl hw (.int (gi σ (5) 4)) rfl d kk
theorem pX7_4 {T : zX} {cc : ByteArray} {own : String} {fr lo : Nat} (hC : zOk T cc own fr lo 0 61) {σ : zSt} {pc : Nat} {lv : List (Nat × Value)} {st : List Value} {index : Nat} {x : Int32} (hw : Cond.fieldLink own index "ShutBench$Walker" "waiting" "I" ∈ zT) (d : decode cc pc = .ok (.putfield index, 3)) (kk : Z T (si σ (5) 4 x) (pc + 3) lv st) : Z T σ pc lv (.int x :: .ref (zAd T (5)) :: st) := by
  refine z_putI (ty := .int) hC (5) 4 ⟨by decide, by decide⟩ (zS_5 _ _ _) ?_ rfl inTX7 tyX7 tyX7_ok nmX7 (by decide) rfl hw rfl (tyX7_ok 4 (by decide)) rfl rfl (Nat.le_of_ble_eq_true rfl) d kk
  refine (zS_5 _ _ _).trans ?_
  simp [si, List.set]
theorem gX7_5 {T : zX} {cc : ByteArray} {own : String} {fr lo : Nat} (hC : zOk T cc own fr lo 0 61) {σ : zSt} {pc : Nat} {lv : List (Nat × Value)} {st : List Value} {index : Nat} (hw : Cond.fieldLink own index "ShutBench$Walker" "told" "I" ∈ zT) (v : Int32) (hv : gi σ (5) 5 = v) (d : decode cc pc = .ok (.getfield index, 3)) (kk : Z T σ (pc + 3) lv (.int v :: st)) : Z T σ pc lv (.ref (zAd T (5)) :: st) := by subst hv; exact z_get hC (5) 5 ⟨by decide, by decide⟩ (zS_5 _ _ _) rfl inTX7 (by decide) rfl hw (.int (gi σ (5) 5)) rfl d kk
theorem pX7_5 {T : zX} {cc : ByteArray} {own : String} {fr lo : Nat} (hC : zOk T cc own fr lo 0 61) {σ : zSt} {pc : Nat} {lv : List (Nat × Value)} {st : List Value} {index : Nat} {x : Int32} (hw : Cond.fieldLink own index "ShutBench$Walker" "told" "I" ∈ zT) (d : decode cc pc = .ok (.putfield index, 3)) (kk : Z T (si σ (5) 5 x) (pc + 3) lv st) : Z T σ pc lv (.int x :: .ref (zAd T (5)) :: st) := by
  refine z_putI (ty := .int) hC (5) 5 ⟨by decide, by decide⟩ (zS_5 _ _ _) ?_ rfl inTX7 tyX7 tyX7_ok nmX7 (by decide) rfl hw rfl (tyX7_ok 5 (by decide)) rfl rfl (Nat.le_of_ble_eq_true rfl) d kk
  refine (zS_5 _ _ _).trans ?_
  simp [si, List.set]
theorem gX7_6 {T : zX} {cc : ByteArray} {own : String} {fr lo : Nat} (hC : zOk T cc own fr lo 0 61) {σ : zSt} {pc : Nat} {lv : List (Nat × Value)} {st : List Value} {index : Nat} (hw : Cond.fieldLink own index "ShutBench$Walker" "looks" "I" ∈ zT) (v : Int32) (hv : gi σ (5) 6 = v) (d : decode cc pc = .ok (.getfield index, 3)) (kk : Z T σ (pc + 3) lv (.int v :: st)) : Z T σ pc lv (.ref (zAd T (5)) :: st) := by subst hv; exact z_get hC (5) 6 ⟨by decide, by decide⟩ (zS_5 _ _ _) rfl inTX7 (by decide) rfl hw (.int (gi σ (5) 6)) rfl d kk
theorem pX7_6 {T : zX} {cc : ByteArray} {own : String} {fr lo : Nat} (hC : zOk T cc own fr lo 0 61) {σ : zSt} {pc : Nat} {lv : List (Nat × Value)} {st : List Value} {index : Nat} {x : Int32} (hw : Cond.fieldLink own index "ShutBench$Walker" "looks" "I" ∈ zT) (d : decode cc pc = .ok (.putfield index, 3)) (kk : Z T (si σ (5) 6 x) (pc + 3) lv st) : Z T σ pc lv (.int x :: .ref (zAd T (5)) :: st) := by
  refine z_putI (ty := .int) hC (5) 6 ⟨by decide, by decide⟩ (zS_5 _ _ _) ?_ rfl inTX7 tyX7 tyX7_ok nmX7 (by decide) rfl hw rfl (tyX7_ok 6 (by decide)) rfl rfl (Nat.le_of_ble_eq_true rfl) d kk
  refine (zS_5 _ _ _).trans ?_
  simp [si, List.set]
theorem gX7_7 {T : zX} {cc : ByteArray} {own : String} {fr lo : Nat} (hC : zOk T cc own fr lo 0 61) {σ : zSt} {pc : Nat} {lv : List (Nat × Value)} {st : List Value} {index : Nat} (hw : Cond.fieldLink own index "ShutBench$Walker" "place" "I" ∈ zT) (v : Int32) (hv : gi σ (5) 7 = v) (d : decode cc pc = .ok (.getfield index, 3)) (kk : Z T σ (pc + 3) lv (.int v :: st)) : Z T σ pc lv (.ref (zAd T (5)) :: st) := by subst hv; exact z_get hC (5) 7 ⟨by decide, by decide⟩ (zS_5 _ _ _) rfl inTX7 (by decide) rfl hw (.int (gi σ (5) 7)) rfl d kk
theorem pX7_7 {T : zX} {cc : ByteArray} {own : String} {fr lo : Nat} (hC : zOk T cc own fr lo 0 61) {σ : zSt} {pc : Nat} {lv : List (Nat × Value)} {st : List Value} {index : Nat} {x : Int32} (hw : Cond.fieldLink own index "ShutBench$Walker" "place" "I" ∈ zT) (d : decode cc pc = .ok (.putfield index, 3)) (kk : Z T (si σ (5) 7 x) (pc + 3) lv st) : Z T σ pc lv (.int x :: .ref (zAd T (5)) :: st) := by
  refine z_putI (ty := .int) hC (5) 7 ⟨by decide, by decide⟩ (zS_5 _ _ _) ?_ rfl inTX7 tyX7 tyX7_ok nmX7 (by decide) rfl hw rfl (tyX7_ok 7 (by decide)) rfl rfl (Nat.le_of_ble_eq_true rfl) d kk
  refine (zS_5 _ _ _).trans ?_
  simp [si, List.set]
theorem gX9_0 {T : zX} {cc : ByteArray} {own : String} {fr lo : Nat} (hC : zOk T cc own fr lo 61 85) {σ : zSt} {pc : Nat} {lv : List (Nat × Value)} {st : List Value} {index : Nat} (hw : Cond.fieldLink own index "ShutBenchModel" "thrown" "I" ∈ zT) (v : Int32) (hv : gi σ (61) 0 = v) (d : decode cc pc = .ok (.getfield index, 3)) (kk : Z T σ (pc + 3) lv (.int v :: st)) : Z T σ pc lv (.ref (zAd T (61)) :: st) := by subst hv; exact z_get hC (61) 0 ⟨by decide, by decide⟩ (zS_61 _ _ _) rfl inTX9 (by decide) rfl hw (.int (gi σ (61) 0)) rfl d kk
theorem pX9_0 {T : zX} {cc : ByteArray} {own : String} {fr lo : Nat} (hC : zOk T cc own fr lo 61 85) {σ : zSt} {pc : Nat} {lv : List (Nat × Value)} {st : List Value} {index : Nat} {x : Int32} (hw : Cond.fieldLink own index "ShutBenchModel" "thrown" "I" ∈ zT) (d : decode cc pc = .ok (.putfield index, 3)) (kk : Z T (si σ (61) 0 x) (pc + 3) lv st) : Z T σ pc lv (.int x :: .ref (zAd T (61)) :: st) := by
  refine z_putI (ty := .int) hC (61) 0 ⟨by decide, by decide⟩ (zS_61 _ _ _) ?_ rfl inTX9 tyX9 tyX9_ok nmX9 (by decide) rfl hw rfl (tyX9_ok 0 (by decide)) rfl rfl (Nat.le_of_ble_eq_true rfl) d kk
  refine (zS_61 _ _ _).trans ?_
  simp [si, List.set]
theorem gX9_1 {T : zX} {cc : ByteArray} {own : String} {fr lo : Nat} (hC : zOk T cc own fr lo 61 85) {σ : zSt} {pc : Nat} {lv : List (Nat × Value)} {st : List Value} {index : Nat} (hw : Cond.fieldLink own index "ShutBenchModel" "tape" "[B" ∈ zT) (d : decode cc pc = .ok (.getfield index, 3)) (kk : Z T σ (pc + 3) lv (.ref (zAd T (62)) :: st)) : Z T σ pc lv (.ref (zAd T (61)) :: st) := z_get hC (61) 1 ⟨by decide, by decide⟩ (zS_61 _ _ _) rfl inTX9 (by decide) rfl hw (.ref (zAd T (62))) rfl d kk
theorem gX9_2 {T : zX} {cc : ByteArray} {own : String} {fr lo : Nat} (hC : zOk T cc own fr lo 61 85) {σ : zSt} {pc : Nat} {lv : List (Nat × Value)} {st : List Value} {index : Nat} (hw : Cond.fieldLink own index "ShutBenchModel" "taped" "I" ∈ zT) (v : Int32) (hv : gi σ (61) 2 = v) (d : decode cc pc = .ok (.getfield index, 3)) (kk : Z T σ (pc + 3) lv (.int v :: st)) : Z T σ pc lv (.ref (zAd T (61)) :: st) := by subst hv; exact z_get hC (61) 2 ⟨by decide, by decide⟩ (zS_61 _ _ _) rfl inTX9 (by decide) rfl hw (.int (gi σ (61) 2)) rfl d kk
theorem pX9_2 {T : zX} {cc : ByteArray} {own : String} {fr lo : Nat} (hC : zOk T cc own fr lo 61 85) {σ : zSt} {pc : Nat} {lv : List (Nat × Value)} {st : List Value} {index : Nat} {x : Int32} (hw : Cond.fieldLink own index "ShutBenchModel" "taped" "I" ∈ zT) (d : decode cc pc = .ok (.putfield index, 3)) (kk : Z T (si σ (61) 2 x) (pc + 3) lv st) : Z T σ pc lv (.int x :: .ref (zAd T (61)) :: st) := by
  refine z_putI (ty := .int) hC (61) 2 ⟨by decide, by decide⟩ (zS_61 _ _ _) ?_ rfl inTX9 tyX9 tyX9_ok nmX9 (by decide) rfl hw rfl (tyX9_ok 2 (by decide)) rfl rfl (Nat.le_of_ble_eq_true rfl) d kk
  refine (zS_61 _ _ _).trans ?_
  simp [si, List.set]
theorem gX9_3 {T : zX} {cc : ByteArray} {own : String} {fr lo : Nat} (hC : zOk T cc own fr lo 61 85) {σ : zSt} {pc : Nat} {lv : List (Nat × Value)} {st : List Value} {index : Nat} (hw : Cond.fieldLink own index "ShutBenchModel" "curves" "I" ∈ zT) (v : Int32) (hv : gi σ (61) 3 = v) (d : decode cc pc = .ok (.getfield index, 3)) (kk : Z T σ (pc + 3) lv (.int v :: st)) : Z T σ pc lv (.ref (zAd T (61)) :: st) := by subst hv; exact z_get hC (61) 3 ⟨by decide, by decide⟩ (zS_61 _ _ _) rfl inTX9 (by decide) rfl hw (.int (gi σ (61) 3)) rfl d kk
theorem pX9_3 {T : zX} {cc : ByteArray} {own : String} {fr lo : Nat} (hC : zOk T cc own fr lo 61 85) {σ : zSt} {pc : Nat} {lv : List (Nat × Value)} {st : List Value} {index : Nat} {x : Int32} (hw : Cond.fieldLink own index "ShutBenchModel" "curves" "I" ∈ zT) (d : decode cc pc = .ok (.putfield index, 3)) (kk : Z T (si σ (61) 3 x) (pc + 3) lv st) : Z T σ pc lv (.int x :: .ref (zAd T (61)) :: st) := by
  refine z_putI (ty := .int) hC (61) 3 ⟨by decide, by decide⟩ (zS_61 _ _ _) ?_ rfl inTX9 tyX9 tyX9_ok nmX9 (by decide) rfl hw rfl (tyX9_ok 3 (by decide)) rfl rfl (Nat.le_of_ble_eq_true rfl) d kk
  refine (zS_61 _ _ _).trans ?_
  simp [si, List.set]
theorem gX9_4 {T : zX} {cc : ByteArray} {own : String} {fr lo : Nat} (hC : zOk T cc own fr lo 61 85) {σ : zSt} {pc : Nat} {lv : List (Nat × Value)} {st : List Value} {index : Nat} (hw : Cond.fieldLink own index "ShutBenchModel" "acts" "[I" ∈ zT) (d : decode cc pc = .ok (.getfield index, 3)) (kk : Z T σ (pc + 3) lv (.ref (zAd T (63)) :: st)) : Z T σ pc lv (.ref (zAd T (61)) :: st) := z_get hC (61) 4 ⟨by decide, by decide⟩ (zS_61 _ _ _) rfl inTX9 (by decide) rfl hw (.ref (zAd T (63))) rfl d kk
theorem gX9_5 {T : zX} {cc : ByteArray} {own : String} {fr lo : Nat} (hC : zOk T cc own fr lo 61 85) {σ : zSt} {pc : Nat} {lv : List (Nat × Value)} {st : List Value} {index : Nat} (hw : Cond.fieldLink own index "ShutBenchModel" "op" "[I" ∈ zT) (d : decode cc pc = .ok (.getfield index, 3)) (kk : Z T σ (pc + 3) lv (.ref (zAd T (64)) :: st)) : Z T σ pc lv (.ref (zAd T (61)) :: st) := z_get hC (61) 5 ⟨by decide, by decide⟩ (zS_61 _ _ _) rfl inTX9 (by decide) rfl hw (.ref (zAd T (64))) rfl d kk
theorem gX9_6 {T : zX} {cc : ByteArray} {own : String} {fr lo : Nat} (hC : zOk T cc own fr lo 61 85) {σ : zSt} {pc : Nat} {lv : List (Nat × Value)} {st : List Value} {index : Nat} (hw : Cond.fieldLink own index "ShutBenchModel" "first" "[I" ∈ zT) (d : decode cc pc = .ok (.getfield index, 3)) (kk : Z T σ (pc + 3) lv (.ref (zAd T (65)) :: st)) : Z T σ pc lv (.ref (zAd T (61)) :: st) := z_get hC (61) 6 ⟨by decide, by decide⟩ (zS_61 _ _ _) rfl inTX9 (by decide) rfl hw (.ref (zAd T (65))) rfl d kk
theorem gX9_7 {T : zX} {cc : ByteArray} {own : String} {fr lo : Nat} (hC : zOk T cc own fr lo 61 85) {σ : zSt} {pc : Nat} {lv : List (Nat × Value)} {st : List Value} {index : Nat} (hw : Cond.fieldLink own index "ShutBenchModel" "second" "[I" ∈ zT) (d : decode cc pc = .ok (.getfield index, 3)) (kk : Z T σ (pc + 3) lv (.ref (zAd T (66)) :: st)) : Z T σ pc lv (.ref (zAd T (61)) :: st) := z_get hC (61) 7 ⟨by decide, by decide⟩ (zS_61 _ _ _) rfl inTX9 (by decide) rfl hw (.ref (zAd T (66))) rfl d kk
theorem gX9_8 {T : zX} {cc : ByteArray} {own : String} {fr lo : Nat} (hC : zOk T cc own fr lo 61 85) {σ : zSt} {pc : Nat} {lv : List (Nat × Value)} {st : List Value} {index : Nat} (hw : Cond.fieldLink own index "ShutBenchModel" "numberLow" "[J" ∈ zT) (d : decode cc pc = .ok (.getfield index, 3)) (kk : Z T σ (pc + 3) lv (.ref (zAd T (67)) :: st)) : Z T σ pc lv (.ref (zAd T (61)) :: st) := z_get hC (61) 8 ⟨by decide, by decide⟩ (zS_61 _ _ _) rfl inTX9 (by decide) rfl hw (.ref (zAd T (67))) rfl d kk
theorem gX9_9 {T : zX} {cc : ByteArray} {own : String} {fr lo : Nat} (hC : zOk T cc own fr lo 61 85) {σ : zSt} {pc : Nat} {lv : List (Nat × Value)} {st : List Value} {index : Nat} (hw : Cond.fieldLink own index "ShutBenchModel" "numberHigh" "[J" ∈ zT) (d : decode cc pc = .ok (.getfield index, 3)) (kk : Z T σ (pc + 3) lv (.ref (zAd T (68)) :: st)) : Z T σ pc lv (.ref (zAd T (61)) :: st) := z_get hC (61) 9 ⟨by decide, by decide⟩ (zS_61 _ _ _) rfl inTX9 (by decide) rfl hw (.ref (zAd T (68))) rfl d kk
theorem gX9_10 {T : zX} {cc : ByteArray} {own : String} {fr lo : Nat} (hC : zOk T cc own fr lo 61 85) {σ : zSt} {pc : Nat} {lv : List (Nat × Value)} {st : List Value} {index : Nat} (hw : Cond.fieldLink own index "ShutBenchModel" "at" "I" ∈ zT) (v : Int32) (hv : gi σ (61) 10 = v) (d : decode cc pc = .ok (.getfield index, 3)) (kk : Z T σ (pc + 3) lv (.int v :: st)) : Z T σ pc lv (.ref (zAd T (61)) :: st) := by subst hv; exact z_get hC (61) 10 ⟨by decide, by decide⟩ (zS_61 _ _ _) rfl inTX9 (by decide) rfl hw (.int (gi σ (61) 10)) rfl d kk
theorem pX9_10 {T : zX} {cc : ByteArray} {own : String} {fr lo : Nat} (hC : zOk T cc own fr lo 61 85) {σ : zSt} {pc : Nat} {lv : List (Nat × Value)} {st : List Value} {index : Nat} {x : Int32} (hw : Cond.fieldLink own index "ShutBenchModel" "at" "I" ∈ zT) (d : decode cc pc = .ok (.putfield index, 3)) (kk : Z T (si σ (61) 10 x) (pc + 3) lv st) : Z T σ pc lv (.int x :: .ref (zAd T (61)) :: st) := by
  refine z_putI (ty := .int) hC (61) 10 ⟨by decide, by decide⟩ (zS_61 _ _ _) ?_ rfl inTX9 tyX9 tyX9_ok nmX9 (by decide) rfl hw rfl (tyX9_ok 10 (by decide)) rfl rfl (Nat.le_of_ble_eq_true rfl) d kk
  refine (zS_61 _ _ _).trans ?_
  simp [si, List.set]
theorem gX9_11 {T : zX} {cc : ByteArray} {own : String} {fr lo : Nat} (hC : zOk T cc own fr lo 61 85) {σ : zSt} {pc : Nat} {lv : List (Nat × Value)} {st : List Value} {index : Nat} (hw : Cond.fieldLink own index "ShutBenchModel" "fault" "I" ∈ zT) (v : Int32) (hv : gi σ (61) 11 = v) (d : decode cc pc = .ok (.getfield index, 3)) (kk : Z T σ (pc + 3) lv (.int v :: st)) : Z T σ pc lv (.ref (zAd T (61)) :: st) := by subst hv; exact z_get hC (61) 11 ⟨by decide, by decide⟩ (zS_61 _ _ _) rfl inTX9 (by decide) rfl hw (.int (gi σ (61) 11)) rfl d kk
theorem pX9_11 {T : zX} {cc : ByteArray} {own : String} {fr lo : Nat} (hC : zOk T cc own fr lo 61 85) {σ : zSt} {pc : Nat} {lv : List (Nat × Value)} {st : List Value} {index : Nat} {x : Int32} (hw : Cond.fieldLink own index "ShutBenchModel" "fault" "I" ∈ zT) (d : decode cc pc = .ok (.putfield index, 3)) (kk : Z T (si σ (61) 11 x) (pc + 3) lv st) : Z T σ pc lv (.int x :: .ref (zAd T (61)) :: st) := by
  refine z_putI (ty := .int) hC (61) 11 ⟨by decide, by decide⟩ (zS_61 _ _ _) ?_ rfl inTX9 tyX9 tyX9_ok nmX9 (by decide) rfl hw rfl (tyX9_ok 11 (by decide)) rfl rfl (Nat.le_of_ble_eq_true rfl) d kk
  refine (zS_61 _ _ _).trans ?_
  simp [si, List.set]
theorem gX9_12 {T : zX} {cc : ByteArray} {own : String} {fr lo : Nat} (hC : zOk T cc own fr lo 61 85) {σ : zSt} {pc : Nat} {lv : List (Nat × Value)} {st : List Value} {index : Nat} (hw : Cond.fieldLink own index "ShutBenchModel" "place" "I" ∈ zT) (v : Int32) (hv : gi σ (61) 12 = v) (d : decode cc pc = .ok (.getfield index, 3)) (kk : Z T σ (pc + 3) lv (.int v :: st)) : Z T σ pc lv (.ref (zAd T (61)) :: st) := by subst hv; exact z_get hC (61) 12 ⟨by decide, by decide⟩ (zS_61 _ _ _) rfl inTX9 (by decide) rfl hw (.int (gi σ (61) 12)) rfl d kk
theorem pX9_12 {T : zX} {cc : ByteArray} {own : String} {fr lo : Nat} (hC : zOk T cc own fr lo 61 85) {σ : zSt} {pc : Nat} {lv : List (Nat × Value)} {st : List Value} {index : Nat} {x : Int32} (hw : Cond.fieldLink own index "ShutBenchModel" "place" "I" ∈ zT) (d : decode cc pc = .ok (.putfield index, 3)) (kk : Z T (si σ (61) 12 x) (pc + 3) lv st) : Z T σ pc lv (.int x :: .ref (zAd T (61)) :: st) := by
  refine z_putI (ty := .int) hC (61) 12 ⟨by decide, by decide⟩ (zS_61 _ _ _) ?_ rfl inTX9 tyX9 tyX9_ok nmX9 (by decide) rfl hw rfl (tyX9_ok 12 (by decide)) rfl rfl (Nat.le_of_ble_eq_true rfl) d kk
  refine (zS_61 _ _ _).trans ?_
  simp [si, List.set]
theorem gX9_13 {T : zX} {cc : ByteArray} {own : String} {fr lo : Nat} (hC : zOk T cc own fr lo 61 85) {σ : zSt} {pc : Nat} {lv : List (Nat × Value)} {st : List Value} {index : Nat} (hw : Cond.fieldLink own index "ShutBenchModel" "made" "I" ∈ zT) (v : Int32) (hv : gi σ (61) 13 = v) (d : decode cc pc = .ok (.getfield index, 3)) (kk : Z T σ (pc + 3) lv (.int v :: st)) : Z T σ pc lv (.ref (zAd T (61)) :: st) := by subst hv; exact z_get hC (61) 13 ⟨by decide, by decide⟩ (zS_61 _ _ _) rfl inTX9 (by decide) rfl hw (.int (gi σ (61) 13)) rfl d kk
theorem pX9_13 {T : zX} {cc : ByteArray} {own : String} {fr lo : Nat} (hC : zOk T cc own fr lo 61 85) {σ : zSt} {pc : Nat} {lv : List (Nat × Value)} {st : List Value} {index : Nat} {x : Int32} (hw : Cond.fieldLink own index "ShutBenchModel" "made" "I" ∈ zT) (d : decode cc pc = .ok (.putfield index, 3)) (kk : Z T (si σ (61) 13 x) (pc + 3) lv st) : Z T σ pc lv (.int x :: .ref (zAd T (61)) :: st) := by
  refine z_putI (ty := .int) hC (61) 13 ⟨by decide, by decide⟩ (zS_61 _ _ _) ?_ rfl inTX9 tyX9 tyX9_ok nmX9 (by decide) rfl hw rfl (tyX9_ok 13 (by decide)) rfl rfl (Nat.le_of_ble_eq_true rfl) d kk
  refine (zS_61 _ _ _).trans ?_
  simp [si, List.set]
theorem gX9_14 {T : zX} {cc : ByteArray} {own : String} {fr lo : Nat} (hC : zOk T cc own fr lo 61 85) {σ : zSt} {pc : Nat} {lv : List (Nat × Value)} {st : List Value} {index : Nat} (hw : Cond.fieldLink own index "ShutBenchModel" "open" "I" ∈ zT) (v : Int32) (hv : gi σ (61) 14 = v) (d : decode cc pc = .ok (.getfield index, 3)) (kk : Z T σ (pc + 3) lv (.int v :: st)) : Z T σ pc lv (.ref (zAd T (61)) :: st) := by subst hv; exact z_get hC (61) 14 ⟨by decide, by decide⟩ (zS_61 _ _ _) rfl inTX9 (by decide) rfl hw (.int (gi σ (61) 14)) rfl d kk
theorem pX9_14 {T : zX} {cc : ByteArray} {own : String} {fr lo : Nat} (hC : zOk T cc own fr lo 61 85) {σ : zSt} {pc : Nat} {lv : List (Nat × Value)} {st : List Value} {index : Nat} {x : Int32} (hw : Cond.fieldLink own index "ShutBenchModel" "open" "I" ∈ zT) (d : decode cc pc = .ok (.putfield index, 3)) (kk : Z T (si σ (61) 14 x) (pc + 3) lv st) : Z T σ pc lv (.int x :: .ref (zAd T (61)) :: st) := by
  refine z_putI (ty := .int) hC (61) 14 ⟨by decide, by decide⟩ (zS_61 _ _ _) ?_ rfl inTX9 tyX9 tyX9_ok nmX9 (by decide) rfl hw rfl (tyX9_ok 14 (by decide)) rfl rfl (Nat.le_of_ble_eq_true rfl) d kk
  refine (zS_61 _ _ _).trans ?_
  simp [si, List.set]
theorem gX9_15 {T : zX} {cc : ByteArray} {own : String} {fr lo : Nat} (hC : zOk T cc own fr lo 61 85) {σ : zSt} {pc : Nat} {lv : List (Nat × Value)} {st : List Value} {index : Nat} (hw : Cond.fieldLink own index "ShutBenchModel" "acts60" "I" ∈ zT) (v : Int32) (hv : gi σ (61) 15 = v) (d : decode cc pc = .ok (.getfield index, 3)) (kk : Z T σ (pc + 3) lv (.int v :: st)) : Z T σ pc lv (.ref (zAd T (61)) :: st) := by subst hv; exact z_get hC (61) 15 ⟨by decide, by decide⟩ (zS_61 _ _ _) rfl inTX9 (by decide) rfl hw (.int (gi σ (61) 15)) rfl d kk
theorem pX9_15 {T : zX} {cc : ByteArray} {own : String} {fr lo : Nat} (hC : zOk T cc own fr lo 61 85) {σ : zSt} {pc : Nat} {lv : List (Nat × Value)} {st : List Value} {index : Nat} {x : Int32} (hw : Cond.fieldLink own index "ShutBenchModel" "acts60" "I" ∈ zT) (d : decode cc pc = .ok (.putfield index, 3)) (kk : Z T (si σ (61) 15 x) (pc + 3) lv st) : Z T σ pc lv (.int x :: .ref (zAd T (61)) :: st) := by
  refine z_putI (ty := .int) hC (61) 15 ⟨by decide, by decide⟩ (zS_61 _ _ _) ?_ rfl inTX9 tyX9 tyX9_ok nmX9 (by decide) rfl hw rfl (tyX9_ok 15 (by decide)) rfl rfl (Nat.le_of_ble_eq_true rfl) d kk
  refine (zS_61 _ _ _).trans ?_
  simp [si, List.set]
theorem gX9_16 {T : zX} {cc : ByteArray} {own : String} {fr lo : Nat} (hC : zOk T cc own fr lo 61 85) {σ : zSt} {pc : Nat} {lv : List (Nat × Value)} {st : List Value} {index : Nat} (hw : Cond.fieldLink own index "ShutBenchModel" "smooth" "[I" ∈ zT) (d : decode cc pc = .ok (.getfield index, 3)) (kk : Z T σ (pc + 3) lv (.ref (zAd T (69)) :: st)) : Z T σ pc lv (.ref (zAd T (61)) :: st) := z_get hC (61) 16 ⟨by decide, by decide⟩ (zS_61 _ _ _) rfl inTX9 (by decide) rfl hw (.ref (zAd T (69))) rfl d kk
theorem gX9_17 {T : zX} {cc : ByteArray} {own : String} {fr lo : Nat} (hC : zOk T cc own fr lo 61 85) {σ : zSt} {pc : Nat} {lv : List (Nat × Value)} {st : List Value} {index : Nat} (hw : Cond.fieldLink own index "ShutBenchModel" "degreeOf" "[I" ∈ zT) (d : decode cc pc = .ok (.getfield index, 3)) (kk : Z T σ (pc + 3) lv (.ref (zAd T (70)) :: st)) : Z T σ pc lv (.ref (zAd T (61)) :: st) := z_get hC (61) 17 ⟨by decide, by decide⟩ (zS_61 _ _ _) rfl inTX9 (by decide) rfl hw (.ref (zAd T (70))) rfl d kk
theorem gX9_18 {T : zX} {cc : ByteArray} {own : String} {fr lo : Nat} (hC : zOk T cc own fr lo 61 85) {σ : zSt} {pc : Nat} {lv : List (Nat × Value)} {st : List Value} {index : Nat} (hw : Cond.fieldLink own index "ShutBenchModel" "degree" "[I" ∈ zT) (d : decode cc pc = .ok (.getfield index, 3)) (kk : Z T σ (pc + 3) lv (.ref (zAd T (71)) :: st)) : Z T σ pc lv (.ref (zAd T (61)) :: st) := z_get hC (61) 18 ⟨by decide, by decide⟩ (zS_61 _ _ _) rfl inTX9 (by decide) rfl hw (.ref (zAd T (71))) rfl d kk
theorem gX9_19 {T : zX} {cc : ByteArray} {own : String} {fr lo : Nat} (hC : zOk T cc own fr lo 61 85) {σ : zSt} {pc : Nat} {lv : List (Nat × Value)} {st : List Value} {index : Nat} (hw : Cond.fieldLink own index "ShutBenchModel" "low" "J" ∈ zT) (v : Int64) (hv : gl σ (61) 19 = v) (d : decode cc pc = .ok (.getfield index, 3)) (kk : Z T σ (pc + 3) lv (.long v :: st)) : Z T σ pc lv (.ref (zAd T (61)) :: st) := by subst hv; exact z_get hC (61) 19 ⟨by decide, by decide⟩ (zS_61 _ _ _) rfl inTX9 (by decide) rfl hw (.long (gl σ (61) 19)) rfl d kk
theorem pX9_19 {T : zX} {cc : ByteArray} {own : String} {fr lo : Nat} (hC : zOk T cc own fr lo 61 85) {σ : zSt} {pc : Nat} {lv : List (Nat × Value)} {st : List Value} {index : Nat} {x : Int64} (hw : Cond.fieldLink own index "ShutBenchModel" "low" "J" ∈ zT) (d : decode cc pc = .ok (.putfield index, 3)) (kk : Z T (sl σ (61) 19 x) (pc + 3) lv st) : Z T σ pc lv (.long x :: .ref (zAd T (61)) :: st) := by
  refine z_putL (ty := .long) hC (61) 19 ⟨by decide, by decide⟩ (zS_61 _ _ _) ?_ rfl inTX9 tyX9 tyX9_ok nmX9 (by decide) rfl hw rfl (tyX9_ok 19 (by decide)) rfl rfl (Nat.le_of_ble_eq_true rfl) d kk
  refine (zS_61 _ _ _).trans ?_
  simp [sl, List.set]
theorem gX9_20 {T : zX} {cc : ByteArray} {own : String} {fr lo : Nat} (hC : zOk T cc own fr lo 61 85) {σ : zSt} {pc : Nat} {lv : List (Nat × Value)} {st : List Value} {index : Nat} (hw : Cond.fieldLink own index "ShutBenchModel" "high" "J" ∈ zT) (v : Int64) (hv : gl σ (61) 20 = v) (d : decode cc pc = .ok (.getfield index, 3)) (kk : Z T σ (pc + 3) lv (.long v :: st)) : Z T σ pc lv (.ref (zAd T (61)) :: st) := by subst hv; exact z_get hC (61) 20 ⟨by decide, by decide⟩ (zS_61 _ _ _) rfl inTX9 (by decide) rfl hw (.long (gl σ (61) 20)) rfl d kk
theorem pX9_20 {T : zX} {cc : ByteArray} {own : String} {fr lo : Nat} (hC : zOk T cc own fr lo 61 85) {σ : zSt} {pc : Nat} {lv : List (Nat × Value)} {st : List Value} {index : Nat} {x : Int64} (hw : Cond.fieldLink own index "ShutBenchModel" "high" "J" ∈ zT) (d : decode cc pc = .ok (.putfield index, 3)) (kk : Z T (sl σ (61) 20 x) (pc + 3) lv st) : Z T σ pc lv (.long x :: .ref (zAd T (61)) :: st) := by
  refine z_putL (ty := .long) hC (61) 20 ⟨by decide, by decide⟩ (zS_61 _ _ _) ?_ rfl inTX9 tyX9 tyX9_ok nmX9 (by decide) rfl hw rfl (tyX9_ok 20 (by decide)) rfl rfl (Nat.le_of_ble_eq_true rfl) d kk
  refine (zS_61 _ _ _).trans ?_
  simp [sl, List.set]
theorem gX9_21 {T : zX} {cc : ByteArray} {own : String} {fr lo : Nat} (hC : zOk T cc own fr lo 61 85) {σ : zSt} {pc : Nat} {lv : List (Nat × Value)} {st : List Value} {index : Nat} (hw : Cond.fieldLink own index "ShutBenchModel" "hole" "Z" ∈ zT) (v : Int32) (hv : gi σ (61) 21 = v) (d : decode cc pc = .ok (.getfield index, 3)) (kk : Z T σ (pc + 3) lv (.int v :: st)) : Z T σ pc lv (.ref (zAd T (61)) :: st) := by subst hv; exact z_get hC (61) 21 ⟨by decide, by decide⟩ (zS_61 _ _ _) rfl inTX9 (by decide) rfl hw (.int (gi σ (61) 21)) rfl d kk
theorem pX9_21 {T : zX} {cc : ByteArray} {own : String} {fr lo : Nat} (hC : zOk T cc own fr lo 61 85) {σ : zSt} {pc : Nat} {lv : List (Nat × Value)} {st : List Value} {index : Nat} {x : Int32} (hw : Cond.fieldLink own index "ShutBenchModel" "hole" "Z" ∈ zT) (hn : narrow .boolean (.int x) = .int x ∧ fits .boolean (.int x) = true) (d : decode cc pc = .ok (.putfield index, 3)) (kk : Z T (si σ (61) 21 x) (pc + 3) lv st) : Z T σ pc lv (.int x :: .ref (zAd T (61)) :: st) := by
  refine z_putI (ty := .boolean) hC (61) 21 ⟨by decide, by decide⟩ (zS_61 _ _ _) ?_ rfl inTX9 tyX9 tyX9_ok nmX9 (by decide) rfl hw rfl (tyX9_ok 21 (by decide)) hn.1 hn.2 (Nat.le_of_ble_eq_true rfl) d kk
  refine (zS_61 _ _ _).trans ?_
  simp [si, List.set]
theorem gX9_22 {T : zX} {cc : ByteArray} {own : String} {fr lo : Nat} (hC : zOk T cc own fr lo 61 85) {σ : zSt} {pc : Nat} {lv : List (Nat × Value)} {st : List Value} {index : Nat} (hw : Cond.fieldLink own index "ShutBenchModel" "isOver" "Z" ∈ zT) (v : Int32) (hv : gi σ (61) 22 = v) (d : decode cc pc = .ok (.getfield index, 3)) (kk : Z T σ (pc + 3) lv (.int v :: st)) : Z T σ pc lv (.ref (zAd T (61)) :: st) := by subst hv; exact z_get hC (61) 22 ⟨by decide, by decide⟩ (zS_61 _ _ _) rfl inTX9 (by decide) rfl hw (.int (gi σ (61) 22)) rfl d kk
theorem pX9_22 {T : zX} {cc : ByteArray} {own : String} {fr lo : Nat} (hC : zOk T cc own fr lo 61 85) {σ : zSt} {pc : Nat} {lv : List (Nat × Value)} {st : List Value} {index : Nat} {x : Int32} (hw : Cond.fieldLink own index "ShutBenchModel" "isOver" "Z" ∈ zT) (hn : narrow .boolean (.int x) = .int x ∧ fits .boolean (.int x) = true) (d : decode cc pc = .ok (.putfield index, 3)) (kk : Z T (si σ (61) 22 x) (pc + 3) lv st) : Z T σ pc lv (.int x :: .ref (zAd T (61)) :: st) := by
  refine z_putI (ty := .boolean) hC (61) 22 ⟨by decide, by decide⟩ (zS_61 _ _ _) ?_ rfl inTX9 tyX9 tyX9_ok nmX9 (by decide) rfl hw rfl (tyX9_ok 22 (by decide)) hn.1 hn.2 (Nat.le_of_ble_eq_true rfl) d kk
  refine (zS_61 _ _ _).trans ?_
  simp [si, List.set]
theorem gX9_23 {T : zX} {cc : ByteArray} {own : String} {fr lo : Nat} (hC : zOk T cc own fr lo 61 85) {σ : zSt} {pc : Nat} {lv : List (Nat × Value)} {st : List Value} {index : Nat} (hw : Cond.fieldLink own index "ShutBenchModel" "vLow" "[J" ∈ zT) (d : decode cc pc = .ok (.getfield index, 3)) (kk : Z T σ (pc + 3) lv (.ref (zAd T (72)) :: st)) : Z T σ pc lv (.ref (zAd T (61)) :: st) := z_get hC (61) 23 ⟨by decide, by decide⟩ (zS_61 _ _ _) rfl inTX9 (by decide) rfl hw (.ref (zAd T (72))) rfl d kk
theorem gX9_24 {T : zX} {cc : ByteArray} {own : String} {fr lo : Nat} (hC : zOk T cc own fr lo 61 85) {σ : zSt} {pc : Nat} {lv : List (Nat × Value)} {st : List Value} {index : Nat} (hw : Cond.fieldLink own index "ShutBenchModel" "vHigh" "[J" ∈ zT) (d : decode cc pc = .ok (.getfield index, 3)) (kk : Z T σ (pc + 3) lv (.ref (zAd T (73)) :: st)) : Z T σ pc lv (.ref (zAd T (61)) :: st) := z_get hC (61) 24 ⟨by decide, by decide⟩ (zS_61 _ _ _) rfl inTX9 (by decide) rfl hw (.ref (zAd T (73))) rfl d kk
theorem gX9_25 {T : zX} {cc : ByteArray} {own : String} {fr lo : Nat} (hC : zOk T cc own fr lo 61 85) {σ : zSt} {pc : Nat} {lv : List (Nat × Value)} {st : List Value} {index : Nat} (hw : Cond.fieldLink own index "ShutBenchModel" "sLow" "[J" ∈ zT) (d : decode cc pc = .ok (.getfield index, 3)) (kk : Z T σ (pc + 3) lv (.ref (zAd T (74)) :: st)) : Z T σ pc lv (.ref (zAd T (61)) :: st) := z_get hC (61) 25 ⟨by decide, by decide⟩ (zS_61 _ _ _) rfl inTX9 (by decide) rfl hw (.ref (zAd T (74))) rfl d kk
theorem gX9_26 {T : zX} {cc : ByteArray} {own : String} {fr lo : Nat} (hC : zOk T cc own fr lo 61 85) {σ : zSt} {pc : Nat} {lv : List (Nat × Value)} {st : List Value} {index : Nat} (hw : Cond.fieldLink own index "ShutBenchModel" "sHigh" "[J" ∈ zT) (d : decode cc pc = .ok (.getfield index, 3)) (kk : Z T σ (pc + 3) lv (.ref (zAd T (75)) :: st)) : Z T σ pc lv (.ref (zAd T (61)) :: st) := z_get hC (61) 26 ⟨by decide, by decide⟩ (zS_61 _ _ _) rfl inTX9 (by decide) rfl hw (.ref (zAd T (75))) rfl d kk
theorem gX9_27 {T : zX} {cc : ByteArray} {own : String} {fr lo : Nat} (hC : zOk T cc own fr lo 61 85) {σ : zSt} {pc : Nat} {lv : List (Nat × Value)} {st : List Value} {index : Nat} (hw : Cond.fieldLink own index "ShutBenchModel" "vHole" "[Z" ∈ zT) (d : decode cc pc = .ok (.getfield index, 3)) (kk : Z T σ (pc + 3) lv (.ref (zAd T (76)) :: st)) : Z T σ pc lv (.ref (zAd T (61)) :: st) := z_get hC (61) 27 ⟨by decide, by decide⟩ (zS_61 _ _ _) rfl inTX9 (by decide) rfl hw (.ref (zAd T (76))) rfl d kk
theorem gX9_28 {T : zX} {cc : ByteArray} {own : String} {fr lo : Nat} (hC : zOk T cc own fr lo 61 85) {σ : zSt} {pc : Nat} {lv : List (Nat × Value)} {st : List Value} {index : Nat} (hw : Cond.fieldLink own index "ShutBenchModel" "sHole" "[Z" ∈ zT) (d : decode cc pc = .ok (.getfield index, 3)) (kk : Z T σ (pc + 3) lv (.ref (zAd T (77)) :: st)) : Z T σ pc lv (.ref (zAd T (61)) :: st) := z_get hC (61) 28 ⟨by decide, by decide⟩ (zS_61 _ _ _) rfl inTX9 (by decide) rfl hw (.ref (zAd T (77))) rfl d kk
theorem gX9_29 {T : zX} {cc : ByteArray} {own : String} {fr lo : Nat} (hC : zOk T cc own fr lo 61 85) {σ : zSt} {pc : Nat} {lv : List (Nat × Value)} {st : List Value} {index : Nat} (hw : Cond.fieldLink own index "ShutBenchModel" "itsLow" "J" ∈ zT) (v : Int64) (hv : gl σ (61) 29 = v) (d : decode cc pc = .ok (.getfield index, 3)) (kk : Z T σ (pc + 3) lv (.long v :: st)) : Z T σ pc lv (.ref (zAd T (61)) :: st) := by subst hv; exact z_get hC (61) 29 ⟨by decide, by decide⟩ (zS_61 _ _ _) rfl inTX9 (by decide) rfl hw (.long (gl σ (61) 29)) rfl d kk
theorem pX9_29 {T : zX} {cc : ByteArray} {own : String} {fr lo : Nat} (hC : zOk T cc own fr lo 61 85) {σ : zSt} {pc : Nat} {lv : List (Nat × Value)} {st : List Value} {index : Nat} {x : Int64} (hw : Cond.fieldLink own index "ShutBenchModel" "itsLow" "J" ∈ zT) (d : decode cc pc = .ok (.putfield index, 3)) (kk : Z T (sl σ (61) 29 x) (pc + 3) lv st) : Z T σ pc lv (.long x :: .ref (zAd T (61)) :: st) := by
  refine z_putL (ty := .long) hC (61) 29 ⟨by decide, by decide⟩ (zS_61 _ _ _) ?_ rfl inTX9 tyX9 tyX9_ok nmX9 (by decide) rfl hw rfl (tyX9_ok 29 (by decide)) rfl rfl (Nat.le_of_ble_eq_true rfl) d kk
  refine (zS_61 _ _ _).trans ?_
  simp [sl, List.set]
theorem gX9_30 {T : zX} {cc : ByteArray} {own : String} {fr lo : Nat} (hC : zOk T cc own fr lo 61 85) {σ : zSt} {pc : Nat} {lv : List (Nat × Value)} {st : List Value} {index : Nat} (hw : Cond.fieldLink own index "ShutBenchModel" "itsHigh" "J" ∈ zT) (v : Int64) (hv : gl σ (61) 30 = v) (d : decode cc pc = .ok (.getfield index, 3)) (kk : Z T σ (pc + 3) lv (.long v :: st)) : Z T σ pc lv (.ref (zAd T (61)) :: st) := by subst hv; exact z_get hC (61) 30 ⟨by decide, by decide⟩ (zS_61 _ _ _) rfl inTX9 (by decide) rfl hw (.long (gl σ (61) 30)) rfl d kk
theorem pX9_30 {T : zX} {cc : ByteArray} {own : String} {fr lo : Nat} (hC : zOk T cc own fr lo 61 85) {σ : zSt} {pc : Nat} {lv : List (Nat × Value)} {st : List Value} {index : Nat} {x : Int64} (hw : Cond.fieldLink own index "ShutBenchModel" "itsHigh" "J" ∈ zT) (d : decode cc pc = .ok (.putfield index, 3)) (kk : Z T (sl σ (61) 30 x) (pc + 3) lv st) : Z T σ pc lv (.long x :: .ref (zAd T (61)) :: st) := by
  refine z_putL (ty := .long) hC (61) 30 ⟨by decide, by decide⟩ (zS_61 _ _ _) ?_ rfl inTX9 tyX9 tyX9_ok nmX9 (by decide) rfl hw rfl (tyX9_ok 30 (by decide)) rfl rfl (Nat.le_of_ble_eq_true rfl) d kk
  refine (zS_61 _ _ _).trans ?_
  simp [sl, List.set]
theorem gX9_31 {T : zX} {cc : ByteArray} {own : String} {fr lo : Nat} (hC : zOk T cc own fr lo 61 85) {σ : zSt} {pc : Nat} {lv : List (Nat × Value)} {st : List Value} {index : Nat} (hw : Cond.fieldLink own index "ShutBenchModel" "toldLow" "J" ∈ zT) (v : Int64) (hv : gl σ (61) 31 = v) (d : decode cc pc = .ok (.getfield index, 3)) (kk : Z T σ (pc + 3) lv (.long v :: st)) : Z T σ pc lv (.ref (zAd T (61)) :: st) := by subst hv; exact z_get hC (61) 31 ⟨by decide, by decide⟩ (zS_61 _ _ _) rfl inTX9 (by decide) rfl hw (.long (gl σ (61) 31)) rfl d kk
theorem pX9_31 {T : zX} {cc : ByteArray} {own : String} {fr lo : Nat} (hC : zOk T cc own fr lo 61 85) {σ : zSt} {pc : Nat} {lv : List (Nat × Value)} {st : List Value} {index : Nat} {x : Int64} (hw : Cond.fieldLink own index "ShutBenchModel" "toldLow" "J" ∈ zT) (d : decode cc pc = .ok (.putfield index, 3)) (kk : Z T (sl σ (61) 31 x) (pc + 3) lv st) : Z T σ pc lv (.long x :: .ref (zAd T (61)) :: st) := by
  refine z_putL (ty := .long) hC (61) 31 ⟨by decide, by decide⟩ (zS_61 _ _ _) ?_ rfl inTX9 tyX9 tyX9_ok nmX9 (by decide) rfl hw rfl (tyX9_ok 31 (by decide)) rfl rfl (Nat.le_of_ble_eq_true rfl) d kk
  refine (zS_61 _ _ _).trans ?_
  simp [sl, List.set]
theorem gX9_32 {T : zX} {cc : ByteArray} {own : String} {fr lo : Nat} (hC : zOk T cc own fr lo 61 85) {σ : zSt} {pc : Nat} {lv : List (Nat × Value)} {st : List Value} {index : Nat} (hw : Cond.fieldLink own index "ShutBenchModel" "toldHigh" "J" ∈ zT) (v : Int64) (hv : gl σ (61) 32 = v) (d : decode cc pc = .ok (.getfield index, 3)) (kk : Z T σ (pc + 3) lv (.long v :: st)) : Z T σ pc lv (.ref (zAd T (61)) :: st) := by subst hv; exact z_get hC (61) 32 ⟨by decide, by decide⟩ (zS_61 _ _ _) rfl inTX9 (by decide) rfl hw (.long (gl σ (61) 32)) rfl d kk
theorem pX9_32 {T : zX} {cc : ByteArray} {own : String} {fr lo : Nat} (hC : zOk T cc own fr lo 61 85) {σ : zSt} {pc : Nat} {lv : List (Nat × Value)} {st : List Value} {index : Nat} {x : Int64} (hw : Cond.fieldLink own index "ShutBenchModel" "toldHigh" "J" ∈ zT) (d : decode cc pc = .ok (.putfield index, 3)) (kk : Z T (sl σ (61) 32 x) (pc + 3) lv st) : Z T σ pc lv (.long x :: .ref (zAd T (61)) :: st) := by
  refine z_putL (ty := .long) hC (61) 32 ⟨by decide, by decide⟩ (zS_61 _ _ _) ?_ rfl inTX9 tyX9 tyX9_ok nmX9 (by decide) rfl hw rfl (tyX9_ok 32 (by decide)) rfl rfl (Nat.le_of_ble_eq_true rfl) d kk
  refine (zS_61 _ _ _).trans ?_
  simp [sl, List.set]
theorem gX9_33 {T : zX} {cc : ByteArray} {own : String} {fr lo : Nat} (hC : zOk T cc own fr lo 61 85) {σ : zSt} {pc : Nat} {lv : List (Nat × Value)} {st : List Value} {index : Nat} (hw : Cond.fieldLink own index "ShutBenchModel" "parts" "I" ∈ zT) (v : Int32) (hv : gi σ (61) 33 = v) (d : decode cc pc = .ok (.getfield index, 3)) (kk : Z T σ (pc + 3) lv (.int v :: st)) : Z T σ pc lv (.ref (zAd T (61)) :: st) := by subst hv; exact z_get hC (61) 33 ⟨by decide, by decide⟩ (zS_61 _ _ _) rfl inTX9 (by decide) rfl hw (.int (gi σ (61) 33)) rfl d kk
theorem pX9_33 {T : zX} {cc : ByteArray} {own : String} {fr lo : Nat} (hC : zOk T cc own fr lo 61 85) {σ : zSt} {pc : Nat} {lv : List (Nat × Value)} {st : List Value} {index : Nat} {x : Int32} (hw : Cond.fieldLink own index "ShutBenchModel" "parts" "I" ∈ zT) (d : decode cc pc = .ok (.putfield index, 3)) (kk : Z T (si σ (61) 33 x) (pc + 3) lv st) : Z T σ pc lv (.int x :: .ref (zAd T (61)) :: st) := by
  refine z_putI (ty := .int) hC (61) 33 ⟨by decide, by decide⟩ (zS_61 _ _ _) ?_ rfl inTX9 tyX9 tyX9_ok nmX9 (by decide) rfl hw rfl (tyX9_ok 33 (by decide)) rfl rfl (Nat.le_of_ble_eq_true rfl) d kk
  refine (zS_61 _ _ _).trans ?_
  simp [si, List.set]
theorem gX9_34 {T : zX} {cc : ByteArray} {own : String} {fr lo : Nat} (hC : zOk T cc own fr lo 61 85) {σ : zSt} {pc : Nat} {lv : List (Nat × Value)} {st : List Value} {index : Nat} (hw : Cond.fieldLink own index "ShutBenchModel" "from" "[J" ∈ zT) (d : decode cc pc = .ok (.getfield index, 3)) (kk : Z T σ (pc + 3) lv (.ref (zAd T (78)) :: st)) : Z T σ pc lv (.ref (zAd T (61)) :: st) := z_get hC (61) 34 ⟨by decide, by decide⟩ (zS_61 _ _ _) rfl inTX9 (by decide) rfl hw (.ref (zAd T (78))) rfl d kk
theorem gX9_35 {T : zX} {cc : ByteArray} {own : String} {fr lo : Nat} (hC : zOk T cc own fr lo 61 85) {σ : zSt} {pc : Nat} {lv : List (Nat × Value)} {st : List Value} {index : Nat} (hw : Cond.fieldLink own index "ShutBenchModel" "to" "[J" ∈ zT) (d : decode cc pc = .ok (.getfield index, 3)) (kk : Z T σ (pc + 3) lv (.ref (zAd T (79)) :: st)) : Z T σ pc lv (.ref (zAd T (61)) :: st) := z_get hC (61) 35 ⟨by decide, by decide⟩ (zS_61 _ _ _) rfl inTX9 (by decide) rfl hw (.ref (zAd T (79))) rfl d kk
theorem gX9_36 {T : zX} {cc : ByteArray} {own : String} {fr lo : Nat} (hC : zOk T cc own fr lo 61 85) {σ : zSt} {pc : Nat} {lv : List (Nat × Value)} {st : List Value} {index : Nat} (hw : Cond.fieldLink own index "ShutBenchModel" "partLow" "[J" ∈ zT) (d : decode cc pc = .ok (.getfield index, 3)) (kk : Z T σ (pc + 3) lv (.ref (zAd T (80)) :: st)) : Z T σ pc lv (.ref (zAd T (61)) :: st) := z_get hC (61) 36 ⟨by decide, by decide⟩ (zS_61 _ _ _) rfl inTX9 (by decide) rfl hw (.ref (zAd T (80))) rfl d kk
theorem gX9_37 {T : zX} {cc : ByteArray} {own : String} {fr lo : Nat} (hC : zOk T cc own fr lo 61 85) {σ : zSt} {pc : Nat} {lv : List (Nat × Value)} {st : List Value} {index : Nat} (hw : Cond.fieldLink own index "ShutBenchModel" "partHigh" "[J" ∈ zT) (d : decode cc pc = .ok (.getfield index, 3)) (kk : Z T σ (pc + 3) lv (.ref (zAd T (81)) :: st)) : Z T σ pc lv (.ref (zAd T (61)) :: st) := z_get hC (61) 37 ⟨by decide, by decide⟩ (zS_61 _ _ _) rfl inTX9 (by decide) rfl hw (.ref (zAd T (81))) rfl d kk
theorem gX9_38 {T : zX} {cc : ByteArray} {own : String} {fr lo : Nat} (hC : zOk T cc own fr lo 61 85) {σ : zSt} {pc : Nat} {lv : List (Nat × Value)} {st : List Value} {index : Nat} (hw : Cond.fieldLink own index "ShutBenchModel" "partsOfArea" "I" ∈ zT) (v : Int32) (hv : gi σ (61) 38 = v) (d : decode cc pc = .ok (.getfield index, 3)) (kk : Z T σ (pc + 3) lv (.int v :: st)) : Z T σ pc lv (.ref (zAd T (61)) :: st) := by subst hv; exact z_get hC (61) 38 ⟨by decide, by decide⟩ (zS_61 _ _ _) rfl inTX9 (by decide) rfl hw (.int (gi σ (61) 38)) rfl d kk
theorem pX9_38 {T : zX} {cc : ByteArray} {own : String} {fr lo : Nat} (hC : zOk T cc own fr lo 61 85) {σ : zSt} {pc : Nat} {lv : List (Nat × Value)} {st : List Value} {index : Nat} {x : Int32} (hw : Cond.fieldLink own index "ShutBenchModel" "partsOfArea" "I" ∈ zT) (d : decode cc pc = .ok (.putfield index, 3)) (kk : Z T (si σ (61) 38 x) (pc + 3) lv st) : Z T σ pc lv (.int x :: .ref (zAd T (61)) :: st) := by
  refine z_putI (ty := .int) hC (61) 38 ⟨by decide, by decide⟩ (zS_61 _ _ _) ?_ rfl inTX9 tyX9 tyX9_ok nmX9 (by decide) rfl hw rfl (tyX9_ok 38 (by decide)) rfl rfl (Nat.le_of_ble_eq_true rfl) d kk
  refine (zS_61 _ _ _).trans ?_
  simp [si, List.set]
theorem gX9_39 {T : zX} {cc : ByteArray} {own : String} {fr lo : Nat} (hC : zOk T cc own fr lo 61 85) {σ : zSt} {pc : Nat} {lv : List (Nat × Value)} {st : List Value} {index : Nat} (hw : Cond.fieldLink own index "ShutBenchModel" "partsOfNever" "I" ∈ zT) (v : Int32) (hv : gi σ (61) 39 = v) (d : decode cc pc = .ok (.getfield index, 3)) (kk : Z T σ (pc + 3) lv (.int v :: st)) : Z T σ pc lv (.ref (zAd T (61)) :: st) := by subst hv; exact z_get hC (61) 39 ⟨by decide, by decide⟩ (zS_61 _ _ _) rfl inTX9 (by decide) rfl hw (.int (gi σ (61) 39)) rfl d kk
theorem pX9_39 {T : zX} {cc : ByteArray} {own : String} {fr lo : Nat} (hC : zOk T cc own fr lo 61 85) {σ : zSt} {pc : Nat} {lv : List (Nat × Value)} {st : List Value} {index : Nat} {x : Int32} (hw : Cond.fieldLink own index "ShutBenchModel" "partsOfNever" "I" ∈ zT) (d : decode cc pc = .ok (.putfield index, 3)) (kk : Z T (si σ (61) 39 x) (pc + 3) lv st) : Z T σ pc lv (.int x :: .ref (zAd T (61)) :: st) := by
  refine z_putI (ty := .int) hC (61) 39 ⟨by decide, by decide⟩ (zS_61 _ _ _) ?_ rfl inTX9 tyX9 tyX9_ok nmX9 (by decide) rfl hw rfl (tyX9_ok 39 (by decide)) rfl rfl (Nat.le_of_ble_eq_true rfl) d kk
  refine (zS_61 _ _ _).trans ?_
  simp [si, List.set]
theorem gX9_40 {T : zX} {cc : ByteArray} {own : String} {fr lo : Nat} (hC : zOk T cc own fr lo 61 85) {σ : zSt} {pc : Nat} {lv : List (Nat × Value)} {st : List Value} {index : Nat} (hw : Cond.fieldLink own index "ShutBenchModel" "told" "I" ∈ zT) (v : Int32) (hv : gi σ (61) 40 = v) (d : decode cc pc = .ok (.getfield index, 3)) (kk : Z T σ (pc + 3) lv (.int v :: st)) : Z T σ pc lv (.ref (zAd T (61)) :: st) := by subst hv; exact z_get hC (61) 40 ⟨by decide, by decide⟩ (zS_61 _ _ _) rfl inTX9 (by decide) rfl hw (.int (gi σ (61) 40)) rfl d kk
theorem pX9_40 {T : zX} {cc : ByteArray} {own : String} {fr lo : Nat} (hC : zOk T cc own fr lo 61 85) {σ : zSt} {pc : Nat} {lv : List (Nat × Value)} {st : List Value} {index : Nat} {x : Int32} (hw : Cond.fieldLink own index "ShutBenchModel" "told" "I" ∈ zT) (d : decode cc pc = .ok (.putfield index, 3)) (kk : Z T (si σ (61) 40 x) (pc + 3) lv st) : Z T σ pc lv (.int x :: .ref (zAd T (61)) :: st) := by
  refine z_putI (ty := .int) hC (61) 40 ⟨by decide, by decide⟩ (zS_61 _ _ _) ?_ rfl inTX9 tyX9 tyX9_ok nmX9 (by decide) rfl hw rfl (tyX9_ok 40 (by decide)) rfl rfl (Nat.le_of_ble_eq_true rfl) d kk
  refine (zS_61 _ _ _).trans ?_
  simp [si, List.set]
theorem gX9_41 {T : zX} {cc : ByteArray} {own : String} {fr lo : Nat} (hC : zOk T cc own fr lo 61 85) {σ : zSt} {pc : Nat} {lv : List (Nat × Value)} {st : List Value} {index : Nat} (hw : Cond.fieldLink own index "ShutBenchModel" "toldFrom" "[J" ∈ zT) (d : decode cc pc = .ok (.getfield index, 3)) (kk : Z T σ (pc + 3) lv (.ref (zAd T (82)) :: st)) : Z T σ pc lv (.ref (zAd T (61)) :: st) := z_get hC (61) 41 ⟨by decide, by decide⟩ (zS_61 _ _ _) rfl inTX9 (by decide) rfl hw (.ref (zAd T (82))) rfl d kk
theorem gX9_42 {T : zX} {cc : ByteArray} {own : String} {fr lo : Nat} (hC : zOk T cc own fr lo 61 85) {σ : zSt} {pc : Nat} {lv : List (Nat × Value)} {st : List Value} {index : Nat} (hw : Cond.fieldLink own index "ShutBenchModel" "toldTo" "[J" ∈ zT) (d : decode cc pc = .ok (.getfield index, 3)) (kk : Z T σ (pc + 3) lv (.ref (zAd T (83)) :: st)) : Z T σ pc lv (.ref (zAd T (61)) :: st) := z_get hC (61) 42 ⟨by decide, by decide⟩ (zS_61 _ _ _) rfl inTX9 (by decide) rfl hw (.ref (zAd T (83))) rfl d kk
theorem gX9_43 {T : zX} {cc : ByteArray} {own : String} {fr lo : Nat} (hC : zOk T cc own fr lo 61 85) {σ : zSt} {pc : Nat} {lv : List (Nat × Value)} {st : List Value} {index : Nat} (hw : Cond.fieldLink own index "ShutBenchModel" "toldWhat" "[I" ∈ zT) (d : decode cc pc = .ok (.getfield index, 3)) (kk : Z T σ (pc + 3) lv (.ref (zAd T (84)) :: st)) : Z T σ pc lv (.ref (zAd T (61)) :: st) := z_get hC (61) 43 ⟨by decide, by decide⟩ (zS_61 _ _ _) rfl inTX9 (by decide) rfl hw (.ref (zAd T (84))) rfl d kk
theorem gX0_0 {T : zX} {cc : ByteArray} {own : String} {fr lo : Nat} (hC : zOk T cc own fr lo 0 61) {σ : zSt} {pc : Nat} {lv : List (Nat × Value)} {st : List Value} {k : Nat} (hk : k < 10) {index : Nat} (hw : Cond.fieldLink own index "ShutBench$Curve" "kinds" "[I" ∈ zT) (d : decode cc pc = .ok (.getfield index, 3)) (kk : Z T σ (pc + 3) lv (.ref (zAd T (21 + 4 * k + 1)) :: st)) : Z T σ pc lv (.ref (zAd T (21 + 4 * k)) :: st) := z_get hC (21 + 4 * k) 0 ⟨by omega, by omega⟩ (zS_cv hk _ _) rfl inTX0 (by decide) rfl hw (.ref (zAd T (21 + 4 * k + 1))) rfl d kk
theorem gX0_1 {T : zX} {cc : ByteArray} {own : String} {fr lo : Nat} (hC : zOk T cc own fr lo 0 61) {σ : zSt} {pc : Nat} {lv : List (Nat × Value)} {st : List Value} {k : Nat} (hk : k < 10) {index : Nat} (hw : Cond.fieldLink own index "ShutBench$Curve" "details" "[J" ∈ zT) (d : decode cc pc = .ok (.getfield index, 3)) (kk : Z T σ (pc + 3) lv (.ref (zAd T (21 + 4 * k + 2)) :: st)) : Z T σ pc lv (.ref (zAd T (21 + 4 * k)) :: st) := z_get hC (21 + 4 * k) 1 ⟨by omega, by omega⟩ (zS_cv hk _ _) rfl inTX0 (by decide) rfl hw (.ref (zAd T (21 + 4 * k + 2))) rfl d kk
theorem gX0_2 {T : zX} {cc : ByteArray} {own : String} {fr lo : Nat} (hC : zOk T cc own fr lo 0 61) {σ : zSt} {pc : Nat} {lv : List (Nat × Value)} {st : List Value} {k : Nat} (hk : k < 10) {index : Nat} (hw : Cond.fieldLink own index "ShutBench$Curve" "lefts" "[I" ∈ zT) (d : decode cc pc = .ok (.getfield index, 3)) (kk : Z T σ (pc + 3) lv (.ref (zAd T (21 + 4 * k + 3)) :: st)) : Z T σ pc lv (.ref (zAd T (21 + 4 * k)) :: st) := z_get hC (21 + 4 * k) 2 ⟨by omega, by omega⟩ (zS_cv hk _ _) rfl inTX0 (by decide) rfl hw (.ref (zAd T (21 + 4 * k + 3))) rfl d kk
theorem gX0_3 {T : zX} {cc : ByteArray} {own : String} {fr lo : Nat} (hC : zOk T cc own fr lo 0 61) {σ : zSt} {pc : Nat} {lv : List (Nat × Value)} {st : List Value} {k : Nat} (hk : k < 10) {index : Nat} (hw : Cond.fieldLink own index "ShutBench$Curve" "acts" "I" ∈ zT) (v : Int32) (hv : gi σ (21 + 4 * k) 3 = v) (d : decode cc pc = .ok (.getfield index, 3)) (kk : Z T σ (pc + 3) lv (.int v :: st)) : Z T σ pc lv (.ref (zAd T (21 + 4 * k)) :: st) := by subst hv; exact z_get hC (21 + 4 * k) 3 ⟨by omega, by omega⟩ (zS_cv hk _ _) rfl inTX0 (by decide) rfl hw (.int (gi σ (21 + 4 * k) 3)) rfl d kk
theorem pX0_3 {T : zX} {cc : ByteArray} {own : String} {fr lo : Nat} (hC : zOk T cc own fr lo 0 61) {σ : zSt} {pc : Nat} {lv : List (Nat × Value)} {st : List Value} {k : Nat} (hk : k < 10) {index : Nat} {x : Int32} (hw : Cond.fieldLink own index "ShutBench$Curve" "acts" "I" ∈ zT) (d : decode cc pc = .ok (.putfield index, 3)) (kk : Z T (si σ (21 + 4 * k) 3 x) (pc + 3) lv st) : Z T σ pc lv (.int x :: .ref (zAd T (21 + 4 * k)) :: st) := by
  refine z_putI (ty := .int) hC (21 + 4 * k) 3 ⟨by omega, by omega⟩ (zS_cv hk _ _) ?_ rfl inTX0 tyX0 tyX0_ok nmX0 (by decide) rfl hw rfl (tyX0_ok 3 (by decide)) rfl rfl (Nat.le_of_ble_eq_true rfl) d kk
  refine (zS_cv hk _ _).trans ?_
  simp [si, List.set, zSc]
theorem gX0_4 {T : zX} {cc : ByteArray} {own : String} {fr lo : Nat} (hC : zOk T cc own fr lo 0 61) {σ : zSt} {pc : Nat} {lv : List (Nat × Value)} {st : List Value} {k : Nat} (hk : k < 10) {index : Nat} (hw : Cond.fieldLink own index "ShutBench$Curve" "smooth" "Z" ∈ zT) (v : Int32) (hv : gi σ (21 + 4 * k) 4 = v) (d : decode cc pc = .ok (.getfield index, 3)) (kk : Z T σ (pc + 3) lv (.int v :: st)) : Z T σ pc lv (.ref (zAd T (21 + 4 * k)) :: st) := by subst hv; exact z_get hC (21 + 4 * k) 4 ⟨by omega, by omega⟩ (zS_cv hk _ _) rfl inTX0 (by decide) rfl hw (.int (gi σ (21 + 4 * k) 4)) rfl d kk
theorem pX0_4 {T : zX} {cc : ByteArray} {own : String} {fr lo : Nat} (hC : zOk T cc own fr lo 0 61) {σ : zSt} {pc : Nat} {lv : List (Nat × Value)} {st : List Value} {k : Nat} (hk : k < 10) {index : Nat} {x : Int32} (hw : Cond.fieldLink own index "ShutBench$Curve" "smooth" "Z" ∈ zT) (hn : narrow .boolean (.int x) = .int x ∧ fits .boolean (.int x) = true) (d : decode cc pc = .ok (.putfield index, 3)) (kk : Z T (si σ (21 + 4 * k) 4 x) (pc + 3) lv st) : Z T σ pc lv (.int x :: .ref (zAd T (21 + 4 * k)) :: st) := by
  refine z_putI (ty := .boolean) hC (21 + 4 * k) 4 ⟨by omega, by omega⟩ (zS_cv hk _ _) ?_ rfl inTX0 tyX0 tyX0_ok nmX0 (by decide) rfl hw rfl (tyX0_ok 4 (by decide)) hn.1 hn.2 (Nat.le_of_ble_eq_true rfl) d kk
  refine (zS_cv hk _ _).trans ?_
  simp [si, List.set, zSc]
theorem gX0_5 {T : zX} {cc : ByteArray} {own : String} {fr lo : Nat} (hC : zOk T cc own fr lo 0 61) {σ : zSt} {pc : Nat} {lv : List (Nat × Value)} {st : List Value} {k : Nat} (hk : k < 10) {index : Nat} (hw : Cond.fieldLink own index "ShutBench$Curve" "degree" "I" ∈ zT) (v : Int32) (hv : gi σ (21 + 4 * k) 5 = v) (d : decode cc pc = .ok (.getfield index, 3)) (kk : Z T σ (pc + 3) lv (.int v :: st)) : Z T σ pc lv (.ref (zAd T (21 + 4 * k)) :: st) := by subst hv; exact z_get hC (21 + 4 * k) 5 ⟨by omega, by omega⟩ (zS_cv hk _ _) rfl inTX0 (by decide) rfl hw (.int (gi σ (21 + 4 * k) 5)) rfl d kk
theorem pX0_5 {T : zX} {cc : ByteArray} {own : String} {fr lo : Nat} (hC : zOk T cc own fr lo 0 61) {σ : zSt} {pc : Nat} {lv : List (Nat × Value)} {st : List Value} {k : Nat} (hk : k < 10) {index : Nat} {x : Int32} (hw : Cond.fieldLink own index "ShutBench$Curve" "degree" "I" ∈ zT) (d : decode cc pc = .ok (.putfield index, 3)) (kk : Z T (si σ (21 + 4 * k) 5 x) (pc + 3) lv st) : Z T σ pc lv (.int x :: .ref (zAd T (21 + 4 * k)) :: st) := by
  refine z_putI (ty := .int) hC (21 + 4 * k) 5 ⟨by omega, by omega⟩ (zS_cv hk _ _) ?_ rfl inTX0 tyX0 tyX0_ok nmX0 (by decide) rfl hw rfl (tyX0_ok 5 (by decide)) rfl rfl (Nat.le_of_ble_eq_true rfl) d kk
  refine (zS_cv hk _ _).trans ?_
  simp [si, List.set, zSc]
theorem gX0_6 {T : zX} {cc : ByteArray} {own : String} {fr lo : Nat} (hC : zOk T cc own fr lo 0 61) {σ : zSt} {pc : Nat} {lv : List (Nat × Value)} {st : List Value} {k : Nat} (hk : k < 10) {index : Nat} (hw : Cond.fieldLink own index "ShutBench$Curve" "needs" "I" ∈ zT) (v : Int32) (hv : gi σ (21 + 4 * k) 6 = v) (d : decode cc pc = .ok (.getfield index, 3)) (kk : Z T σ (pc + 3) lv (.int v :: st)) : Z T σ pc lv (.ref (zAd T (21 + 4 * k)) :: st) := by subst hv; exact z_get hC (21 + 4 * k) 6 ⟨by omega, by omega⟩ (zS_cv hk _ _) rfl inTX0 (by decide) rfl hw (.int (gi σ (21 + 4 * k) 6)) rfl d kk
theorem pX0_6 {T : zX} {cc : ByteArray} {own : String} {fr lo : Nat} (hC : zOk T cc own fr lo 0 61) {σ : zSt} {pc : Nat} {lv : List (Nat × Value)} {st : List Value} {k : Nat} (hk : k < 10) {index : Nat} {x : Int32} (hw : Cond.fieldLink own index "ShutBench$Curve" "needs" "I" ∈ zT) (d : decode cc pc = .ok (.putfield index, 3)) (kk : Z T (si σ (21 + 4 * k) 6 x) (pc + 3) lv st) : Z T σ pc lv (.int x :: .ref (zAd T (21 + 4 * k)) :: st) := by
  refine z_putI (ty := .int) hC (21 + 4 * k) 6 ⟨by omega, by omega⟩ (zS_cv hk _ _) ?_ rfl inTX0 tyX0 tyX0_ok nmX0 (by decide) rfl hw rfl (tyX0_ok 6 (by decide)) rfl rfl (Nat.le_of_ble_eq_true rfl) d kk
  refine (zS_cv hk _ _).trans ?_
  simp [si, List.set, zSc]
theorem z_strVal {T : zX} {cc : ByteArray} {own : String} {fr lo cl ch : Nat} (hC : zOk T cc own fr lo cl ch) {σ : zSt} {pc : Nat} {lv : List (Nat × Value)} {st : List Value} {i index : Nat} (hi : i < 9) (hw : Cond.fieldLink own index "java/lang/String" "value" "[B" ∈ zT) (d : decode cc pc = .ok (.getfield index, 3)) (kk : Z T σ (pc + 3) lv (.ref (zSv T i) :: st)) : Z T σ pc lv (.ref (zSk T i) :: st) := by
  obtain ⟨p, l, e, R, s, m, args, below, meth, cd, Q, nL, G, mk, A, cells, slots⟩ := T
  obtain ⟨hx, hb, hml, hown, hts, hE, hA, hR, hM⟩ := hC
  intro H locs ls hP hS hl
  exact vk_getf hx hb (hE.2.2.1.1 i hi).2.2.1 hS hown (hts _ hw) (fun x h => h) d (kk H locs ls hP hS hl)
theorem z_strCod {T : zX} {cc : ByteArray} {own : String} {fr lo cl ch : Nat} (hC : zOk T cc own fr lo cl ch) {σ : zSt} {pc : Nat} {lv : List (Nat × Value)} {st : List Value} {i index : Nat} (hi : i < 9) (hw : Cond.fieldLink own index "java/lang/String" "coder" "B" ∈ zT) (d : decode cc pc = .ok (.getfield index, 3)) (kk : Z T σ (pc + 3) lv (.int 0 :: st)) : Z T σ pc lv (.ref (zSk T i) :: st) := by
  obtain ⟨p, l, e, R, s, m, args, below, meth, cd, Q, nL, G, mk, A, cells, slots⟩ := T
  obtain ⟨hx, hb, hml, hown, hts, hE, hA, hR, hM⟩ := hC
  intro H locs ls hP hS hl
  exact vk_getf hx hb (hE.2.2.1.1 i hi).2.1 hS hown (hts _ hw) (fun x h => h) d (kk H locs ls hP hS hl)
theorem z_cs {T : zX} {cc : ByteArray} {own : String} {fr lo cl ch : Nat} (hC : zOk T cc own fr lo cl ch) {σ : zSt} {pc : Nat} {lv : List (Nat × Value)} {st : List Value} {index : Nat} (hw : Cond.fieldLink own index "java/lang/String" "COMPACT_STRINGS" "Z" ∈ zT) (d : decode cc pc = .ok (.getstatic index, 3)) (kk : Z T σ (pc + 3) lv (.int 1 :: st)) : Z T σ pc lv st := by
  obtain ⟨p, l, e, R, s, m, args, below, meth, cd, Q, nL, G, mk, A, cells, slots⟩ := T
  obtain ⟨hx, hb, hml, hown, hts, hE, hA, hR, hM⟩ := hC
  intro H locs ls hP hS hl
  exact va_gets hx hb hE.2.2.2.2.1 hS hown (hts _ hw) (fun x h => h) d (kk H locs ls hP hS hl)
theorem z_svLen {T : zX} {cc : ByteArray} {own : String} {fr lo cl ch : Nat} (hC : zOk T cc own fr lo cl ch) {σ : zSt} {pc : Nat} {lv : List (Nat × Value)} {st : List Value} {i : Nat} (hi : i < 9) (d : decode cc pc = .ok (.arraylength, 1)) (kk : Z T σ (pc + 1) lv (.int (Int32.ofNat (zLen.getD i 0)) :: st)) : Z T σ pc lv (.ref (zSv T i) :: st) := by
  obtain ⟨p, l, e, R, s, m, args, below, meth, cd, Q, nL, G, mk, A, cells, slots⟩ := T
  obtain ⟨hx, hb, hml, hown, hts, hE, hA, hR, hM⟩ := hC
  intro H locs ls hP hS hl
  obtain ⟨cell, h1, h2, h3, h4, h5, h6, h7⟩ := ((hE.2.2.1.kept hS.2.1).1 i hi).2.2.2
  exact W.alen hx hb h1 h2 h5 rfl rfl d (kk H locs ls hP hS hl)
theorem z_svLd {T : zX} {cc : ByteArray} {own : String} {fr lo cl ch : Nat} (hC : zOk T cc own fr lo cl ch) {σ : zSt} {pc : Nat} {lv : List (Nat × Value)} {st : List Value} {i : Nat} {j : Int32} (hi : i < 9) (hin : vp_in j (zLen.getD i 0)) (d : decode cc pc = .ok (.baload, 1)) (kk : Z T σ (pc + 1) lv (.int ((zByt.getD i []).getD j.toNatClampNeg 0) :: st)) : Z T σ pc lv (.int j :: .ref (zSv T i) :: st) := by
  obtain ⟨p, l, e, R, s, m, args, below, meth, cd, Q, nL, G, mk, A, cells, slots⟩ := T
  obtain ⟨hx, hb, hml, hown, hts, hE, hA, hR, hM⟩ := hC
  intro H locs ls hP hS hl
  obtain ⟨cell, h1, h2, h3, h4, h5, h6, h7⟩ := ((hE.2.2.1.kept hS.2.1).1 i hi).2.2.2
  have hlt : j.toNatClampNeg < zLen.getD i 0 := Nat.not_le.mp fun q => hin (Or.inr q)
  exact W.bald hx hb h1 h2 h3 (fun q => by rcases q with q | q; exact hin (Or.inl q); omega) (h6 _ hlt) rfl rfl d (kk H locs ls hP hS hl)
theorem kb_X0_add : zWV yX0_add cX0_add 5 none 3 := ⟨kn_X0_add, kv_X0_add, ki_X0, kx_X0_add, kd_X0_add⟩
theorem kb_X0_copy : zWV yX0_copy cX0_copy 3 none 1 := ⟨kn_X0_copy, kv_X0_copy, ki_X0, kx_X0_copy, kd_X0_copy⟩
theorem kb_X0_kindAt : zWV yX0_kindAt cX0_kindAt 2 (some .int) 1 := ⟨kn_X0_kindAt, kv_X0_kindAt, ki_X0, kx_X0_kindAt, kd_X0_kindAt⟩
theorem kb_X0_detailAt : zWV yX0_detailAt cX0_detailAt 2 (some .long) 1 := ⟨kn_X0_detailAt, kv_X0_detailAt, ki_X0, kx_X0_detailAt, kd_X0_detailAt⟩
theorem kb_X0_leftAt : zWV yX0_leftAt cX0_leftAt 2 (some .int) 1 := ⟨kn_X0_leftAt, kv_X0_leftAt, ki_X0, kx_X0_leftAt, kd_X0_leftAt⟩
theorem kb_X1_has : zWV yX1_has cX1_has 2 (some .boolean) 1 := ⟨kn_X1_has, kv_X1_has, ki_X1, kx_X1_has, kd_X1_has⟩
theorem kb_X1_curveAt : zWV yX1_curveAt cX1_curveAt 3 (some (.object "ShutBench$Curve")) 1 := ⟨kn_X1_curveAt, kv_X1_curveAt, ki_X1, kx_X1_curveAt, kd_X1_curveAt⟩
theorem kb_X1_keep : zWV yX1_keep cX1_keep 6 (some .int) 1 := ⟨kn_X1_keep, kv_X1_keep, ki_X1, kx_X1_keep, kd_X1_keep⟩
theorem kb_X1_degreeOf : zWV yX1_degreeOf cX1_degreeOf 5 (some .int) 2 := ⟨kn_X1_degreeOf, kv_X1_degreeOf, ki_X1, kx_X1_degreeOf, kd_X1_degreeOf⟩
theorem kb_X1_degreeAt : zWV yX1_degreeAt cX1_degreeAt 2 (some .int) 1 := ⟨kn_X1_degreeAt, kv_X1_degreeAt, ki_X1, kx_X1_degreeAt, kd_X1_degreeAt⟩
theorem kb_X1_rowAt : zWS yX1_rowAt cX1_rowAt 2 (some .long) 2 := ⟨ks_X1_rowAt, ki_X1, kx_X1_rowAt, kd_X1_rowAt⟩
theorem kb_X1_measure : zWV yX1_measure cX1_measure 10 (some .long) 4 := ⟨kn_X1_measure, kv_X1_measure, ki_X1, kx_X1_measure, kd_X1_measure⟩
theorem kb_X1_valueOf : zWV yX1_valueOf cX1_valueOf 9 (some .long) 2 := ⟨kn_X1_valueOf, kv_X1_valueOf, ki_X1, kx_X1_valueOf, kd_X1_valueOf⟩
theorem kb_X1_leanOf : zWV yX1_leanOf cX1_leanOf 13 (some .long) 2 := ⟨kn_X1_leanOf, kv_X1_leanOf, ki_X1, kx_X1_leanOf, kd_X1_leanOf⟩
theorem kb_X1_wholes : zWS yX1_wholes cX1_wholes 2 (some .long) 1 := ⟨ks_X1_wholes, ki_X1, kx_X1_wholes, kd_X1_wholes⟩
theorem kb_X1_leanOfPower : zWS yX1_leanOfPower cX1_leanOfPower 6 (some .long) 3 := ⟨ks_X1_leanOfPower, ki_X1, kx_X1_leanOfPower, kd_X1_leanOfPower⟩
theorem kb_X1_leanOfSize : zWS yX1_leanOfSize cX1_leanOfSize 4 (some .long) 2 := ⟨ks_X1_leanOfSize, ki_X1, kx_X1_leanOfSize, kd_X1_leanOfSize⟩
theorem kb_X2_sumUp : zWV yX2_sumUp cX2_sumUp 17 (some .boolean) 6 := ⟨kn_X2_sumUp, kv_X2_sumUp, ki_X2, kx_X2_sumUp, kd_X2_sumUp⟩
theorem kb_X2_sumPart : zWV yX2_sumPart cX2_sumPart 20 (some .boolean) 5 := ⟨kn_X2_sumPart, kv_X2_sumPart, ki_X2, kx_X2_sumPart, kd_X2_sumPart⟩
theorem kb_X2_seekLeast : zWV yX2_seekLeast cX2_seekLeast 12 (some .boolean) 6 := ⟨kn_X2_seekLeast, kv_X2_seekLeast, ki_X2, kx_X2_seekLeast, kd_X2_seekLeast⟩
theorem kb_X2_sinkPart : zWV yX2_sinkPart cX2_sinkPart 12 (some .boolean) 6 := ⟨kn_X2_sinkPart, kv_X2_sinkPart, ki_X2, kx_X2_sinkPart, kd_X2_sinkPart⟩
theorem kb_X2_keep : zWV yX2_keep cX2_keep 8 none 5 := ⟨kn_X2_keep, kv_X2_keep, ki_X2, kx_X2_keep, kd_X2_keep⟩
theorem kb_X2_canHalve : zWV yX2_canHalve cX2_canHalve 2 (some .boolean) 1 := ⟨kn_X2_canHalve, kv_X2_canHalve, ki_X2, kx_X2_canHalve, kd_X2_canHalve⟩
theorem kb_X2_widest : zWV yX2_widest cX2_widest 5 (some .int) 0 := ⟨kn_X2_widest, kv_X2_widest, ki_X2, kx_X2_widest, kd_X2_widest⟩
theorem kb_X2_deepest : zWV yX2_deepest cX2_deepest 3 (some .int) 0 := ⟨kn_X2_deepest, kv_X2_deepest, ki_X2, kx_X2_deepest, kd_X2_deepest⟩
theorem kb_X3_read : zWV yX3_read cX3_read 2 (some .int) 1 := ⟨kn_X3_read, kv_X3_read, ki_X3, kx_X3_read, kd_X3_read⟩
theorem kb_X3_refuse : zWV yX3_refuse cX3_refuse 2 none 1 := ⟨kn_X3_refuse, kv_X3_refuse, ki_X3, kx_X3_refuse, kd_X3_refuse⟩
theorem kb_X3_sign : zWV yX3_sign cX3_sign 1 (some .int) 0 := ⟨kn_X3_sign, kv_X3_sign, ki_X3, kx_X3_sign, kd_X3_sign⟩
theorem kb_X3_meet : zWV yX3_meet cX3_meet 1 (some .boolean) 0 := ⟨kn_X3_meet, kv_X3_meet, ki_X3, kx_X3_meet, kd_X3_meet⟩
theorem kb_X3_emit : zWV yX3_emit cX3_emit 5 none 3 := ⟨kn_X3_emit, kv_X3_emit, ki_X3, kx_X3_emit, kd_X3_emit⟩
theorem kb_X3_sum : zWV yX3_sum cX3_sum 5 none 1 := ⟨kn_X3_sum, kv_X3_sum, ki_X3, kx_X3_sum, kd_X3_sum⟩
theorem kb_X3_term : zWV yX3_term cX3_term 5 none 1 := ⟨kn_X3_term, kv_X3_term, ki_X3, kx_X3_term, kd_X3_term⟩
theorem kb_X3_power : zWV yX3_power cX3_power 4 none 1 := ⟨kn_X3_power, kv_X3_power, ki_X3, kx_X3_power, kd_X3_power⟩
theorem kb_X3_piece : zWV yX3_piece cX3_piece 4 none 1 := ⟨kn_X3_piece, kv_X3_piece, ki_X3, kx_X3_piece, kd_X3_piece⟩
theorem kb_X3_inside : zWV yX3_inside cX3_inside 2 none 1 := ⟨kn_X3_inside, kv_X3_inside, ki_X3, kx_X3_inside, kd_X3_inside⟩
theorem kb_X3_pass : zWV yX3_pass cX3_pass 2 none 1 := ⟨kn_X3_pass, kv_X3_pass, ki_X3, kx_X3_pass, kd_X3_pass⟩
theorem kb_X3_word : zWV yX3_word cX3_word 3 (some .int) 0 := ⟨kn_X3_word, kv_X3_word, ki_X3, kx_X3_word, kd_X3_word⟩
theorem kb_X3_curveNumber : zWV yX3_curveNumber cX3_curveNumber 1 (some .int) 0 := ⟨kn_X3_curveNumber, kv_X3_curveNumber, ki_X3, kx_X3_curveNumber, kd_X3_curveNumber⟩
theorem kb_X3_kindOf : zWV yX3_kindOf cX3_kindOf 3 (some .int) 1 := ⟨kn_X3_kindOf, kv_X3_kindOf, ki_X3, kx_X3_kindOf, kd_X3_kindOf⟩
theorem kb_X3_nameOf : zWV yX3_nameOf cX3_nameOf 2 (some .int) 1 := ⟨kn_X3_nameOf, kv_X3_nameOf, ki_X3, kx_X3_nameOf, kd_X3_nameOf⟩
theorem kb_X3_isWord : zWV yX3_isWord cX3_isWord 4 (some .boolean) 2 := ⟨kn_X3_isWord, kv_X3_isWord, ki_X3, kx_X3_isWord, kd_X3_isWord⟩
theorem kb_X3_isNumber : zWV yX3_isNumber cX3_isNumber 5 (some .boolean) 1 := ⟨kn_X3_isNumber, kv_X3_isNumber, ki_X3, kx_X3_isNumber, kd_X3_isNumber⟩
theorem kb_X3_number : zWV yX3_number cX3_number 9 (some .long) 1 := ⟨kn_X3_number, kv_X3_number, ki_X3, kx_X3_number, kd_X3_number⟩
theorem kb_X3_isDigit : zWS yX3_isDigit cX3_isDigit 1 (some .boolean) 1 := ⟨ks_X3_isDigit, ki_X3, kx_X3_isDigit, kd_X3_isDigit⟩
theorem kb_X3_isWordByte : zWS yX3_isWordByte cX3_isWordByte 1 (some .boolean) 1 := ⟨ks_X3_isWordByte, ki_X3, kx_X3_isWordByte, kd_X3_isWordByte⟩
theorem kb_X4_exp : zWS yX4_exp cX4_exp 2 (some .long) 1 := ⟨ks_X4_exp, ki_X4, kx_X4_exp, kd_X4_exp⟩
theorem kb_X4_raised : zWS yX4_raised cX4_raised 19 (some .long) 2 := ⟨ks_X4_raised, ki_X4, kx_X4_raised, kd_X4_raised⟩
theorem kb_X4_log : zWS yX4_log cX4_log 4 (some .long) 1 := ⟨ks_X4_log, ki_X4, kx_X4_log, kd_X4_log⟩
theorem kb_X4_halved : zWS yX4_halved cX4_halved 10 (some .long) 2 := ⟨ks_X4_halved, ki_X4, kx_X4_halved, kd_X4_halved⟩
theorem kb_X4_wave : zWS yX4_wave cX4_wave 26 (some .long) 2 := ⟨ks_X4_wave, ki_X4, kx_X4_wave, kd_X4_wave⟩
theorem kb_X5_of : zWS yX5_of cX5_of 4 (some .long) 2 := ⟨ks_X5_of, ki_X5, kx_X5_of, kd_X5_of⟩
theorem kb_X5_lowOf : zWS yX5_lowOf cX5_lowOf 2 (some .long) 1 := ⟨ks_X5_lowOf, ki_X5, kx_X5_lowOf, kd_X5_lowOf⟩
theorem kb_X5_highOf : zWS yX5_highOf cX5_highOf 2 (some .long) 1 := ⟨ks_X5_highOf, ki_X5, kx_X5_highOf, kd_X5_highOf⟩
theorem kb_X5_isHole : zWS yX5_isHole cX5_isHole 4 (some .boolean) 2 := ⟨ks_X5_isHole, ki_X5, kx_X5_isHole, kd_X5_isHole⟩
theorem kb_X5_hasNoZero : zWS yX5_hasNoZero cX5_hasNoZero 2 (some .boolean) 1 := ⟨ks_X5_hasNoZero, ki_X5, kx_X5_hasNoZero, kd_X5_hasNoZero⟩
theorem kb_X5_isApart : zWS yX5_isApart cX5_isApart 4 (some .boolean) 2 := ⟨ks_X5_isApart, ki_X5, kx_X5_isApart, kd_X5_isApart⟩
theorem kb_X5_plus : zWS yX5_plus cX5_plus 4 (some .long) 2 := ⟨ks_X5_plus, ki_X5, kx_X5_plus, kd_X5_plus⟩
theorem kb_X5_minus : zWS yX5_minus cX5_minus 4 (some .long) 2 := ⟨ks_X5_minus, ki_X5, kx_X5_minus, kd_X5_minus⟩
theorem kb_X5_turned : zWS yX5_turned cX5_turned 2 (some .long) 1 := ⟨ks_X5_turned, ki_X5, kx_X5_turned, kd_X5_turned⟩
theorem kb_X5_times : zWS yX5_times cX5_times 16 (some .long) 2 := ⟨ks_X5_times, ki_X5, kx_X5_times, kd_X5_times⟩
theorem kb_X5_over : zWS yX5_over cX5_over 16 (some .long) 2 := ⟨ks_X5_over, ki_X5, kx_X5_over, kd_X5_over⟩
theorem kb_X5_power : zWS yX5_power cX5_power 12 (some .long) 2 := ⟨ks_X5_power, ki_X5, kx_X5_power, kd_X5_power⟩
theorem kb_X5_grownDown : zWS yX5_grownDown cX5_grownDown 8 (some .long) 2 := ⟨ks_X5_grownDown, ki_X5, kx_X5_grownDown, kd_X5_grownDown⟩
theorem kb_X5_grownUp : zWS yX5_grownUp cX5_grownUp 8 (some .long) 2 := ⟨ks_X5_grownUp, ki_X5, kx_X5_grownUp, kd_X5_grownUp⟩
theorem kb_X5_size : zWS yX5_size cX5_size 2 (some .long) 1 := ⟨ks_X5_size, ki_X5, kx_X5_size, kd_X5_size⟩
theorem kb_X5_lesser : zWS yX5_lesser cX5_lesser 4 (some .long) 2 := ⟨ks_X5_lesser, ki_X5, kx_X5_lesser, kd_X5_lesser⟩
theorem kb_X5_greater : zWS yX5_greater cX5_greater 4 (some .long) 2 := ⟨ks_X5_greater, ki_X5, kx_X5_greater, kd_X5_greater⟩
theorem kb_X5_together : zWS yX5_together cX5_together 4 (some .long) 2 := ⟨ks_X5_together, ki_X5, kx_X5_together, kd_X5_together⟩
theorem kb_X5_root : zWS yX5_root cX5_root 6 (some .long) 1 := ⟨ks_X5_root, ki_X5, kx_X5_root, kd_X5_root⟩
theorem kb_X5_rootDown : zWS yX5_rootDown cX5_rootDown 7 (some .long) 1 := ⟨ks_X5_rootDown, ki_X5, kx_X5_rootDown, kd_X5_rootDown⟩
theorem kb_X6_take : zWV yX6_take cX6_take 3 none 1 := ⟨kn_X6_take, kv_X6_take, ki_X6, kx_X6_take, kd_X6_take⟩
theorem kb_X6_byteAt : zWV yX6_byteAt cX6_byteAt 2 (some .int) 1 := ⟨kn_X6_byteAt, kv_X6_byteAt, ki_X6, kx_X6_byteAt, kd_X6_byteAt⟩
theorem kb_X7_seekRoots : zWV yX7_seekRoots cX7_seekRoots 12 none 5 := ⟨kn_X7_seekRoots, kv_X7_seekRoots, ki_X7, kx_X7_seekRoots, kd_X7_seekRoots⟩
theorem kb_X7_lookAt : zWS yX7_lookAt cX7_lookAt 11 (some .int) 4 := ⟨ks_X7_lookAt, ki_X7, kx_X7_lookAt, kd_X7_lookAt⟩
theorem kb_X7_keep : zWV yX7_keep cX7_keep 5 none 3 := ⟨kn_X7_keep, kv_X7_keep, ki_X7, kx_X7_keep, kd_X7_keep⟩
theorem kb_X7_tellPart : zWV yX7_tellPart cX7_tellPart 3 (some .int) 2 := ⟨kn_X7_tellPart, kv_X7_tellPart, ki_X7, kx_X7_tellPart, kd_X7_tellPart⟩
theorem kb_X7_seekBreak : zWV yX7_seekBreak cX7_seekBreak 11 (some .int) 6 := ⟨kn_X7_seekBreak, kv_X7_seekBreak, ki_X7, kx_X7_seekBreak, kd_X7_seekBreak⟩
theorem kb_X7_isAbove : zWS yX7_isAbove cX7_isAbove 3 (some .boolean) 2 := ⟨ks_X7_isAbove, ki_X7, kx_X7_isAbove, kd_X7_isAbove⟩
theorem kb_X7_breaks : zWV yX7_breaks cX7_breaks 6 (some .boolean) 5 := ⟨kn_X7_breaks, kv_X7_breaks, ki_X7, kx_X7_breaks, kd_X7_breaks⟩
theorem kb_X7_breaksAt : zWV yX7_breaksAt cX7_breaksAt 7 (some .boolean) 4 := ⟨kn_X7_breaksAt, kv_X7_breaksAt, ki_X7, kx_X7_breaksAt, kd_X7_breaksAt⟩
theorem kb_X7_await : zWV yX7_await cX7_await 2 none 1 := ⟨kn_X7_await, kv_X7_await, ki_X7, kx_X7_await, kd_X7_await⟩
theorem kb_X7_firstEnd : zWV yX7_firstEnd cX7_firstEnd 1 (some .int) 0 := ⟨kn_X7_firstEnd, kv_X7_firstEnd, ki_X7, kx_X7_firstEnd, kd_X7_firstEnd⟩
theorem kb_X8_feed : zWV yX8_feed cX8_feed 7 (some .int) 5 := ⟨kn_X8_feed, kv_X8_feed, ki_X8, kx_X8_feed, kd_X8_feed⟩
theorem kb_X8_end : zWV yX8_end cX8_end 2 (some .int) 1 := ⟨kn_X8_end, kv_X8_end, ki_X8, kx_X8_end, kd_X8_end⟩
theorem kb_X8_curve : zWV yX8_curve cX8_curve 3 (some .int) 0 := ⟨kn_X8_curve, kv_X8_curve, ki_X8, kx_X8_curve, kd_X8_curve⟩
theorem kb_X8_drop : zWV yX8_drop cX8_drop 1 (some .int) 0 := ⟨kn_X8_drop, kv_X8_drop, ki_X8, kx_X8_drop, kd_X8_drop⟩
theorem kb_X8_about : zWV yX8_about cX8_about 3 (some .int) 2 := ⟨kn_X8_about, kv_X8_about, ki_X8, kx_X8_about, kd_X8_about⟩
theorem kb_X8_at : zWV yX8_at cX8_at 4 (some .int) 3 := ⟨kn_X8_at, kv_X8_at, ki_X8, kx_X8_at, kd_X8_at⟩
theorem kb_X8_slope : zWV yX8_slope cX8_slope 4 (some .int) 3 := ⟨kn_X8_slope, kv_X8_slope, ki_X8, kx_X8_slope, kd_X8_slope⟩
theorem kb_X8_area : zWV yX8_area cX8_area 9 (some .int) 5 := ⟨kn_X8_area, kv_X8_area, ki_X8, kx_X8_area, kd_X8_area⟩
theorem kb_X8_roots : zWV yX8_roots cX8_roots 5 (some .int) 4 := ⟨kn_X8_roots, kv_X8_roots, ki_X8, kx_X8_roots, kd_X8_roots⟩
theorem kb_X8_part : zWV yX8_part cX8_part 3 (some .int) 2 := ⟨kn_X8_part, kv_X8_part, ki_X8, kx_X8_part, kd_X8_part⟩
theorem kb_X8_least : zWV yX8_least cX8_least 5 (some .int) 4 := ⟨kn_X8_least, kv_X8_least, ki_X8, kx_X8_least, kd_X8_least⟩
theorem kb_X8_greatest : zWV yX8_greatest cX8_greatest 5 (some .int) 4 := ⟨kn_X8_greatest, kv_X8_greatest, ki_X8, kx_X8_greatest, kd_X8_greatest⟩
theorem kb_X8_never : zWV yX8_never cX8_never 7 (some .int) 5 := ⟨kn_X8_never, kv_X8_never, ki_X8, kx_X8_never, kd_X8_never⟩
theorem kb_X8_low : zWV yX8_low cX8_low 1 (some .long) 0 := ⟨kn_X8_low, kv_X8_low, ki_X8, kx_X8_low, kd_X8_low⟩
theorem kb_X8_high : zWV yX8_high cX8_high 1 (some .long) 0 := ⟨kn_X8_high, kv_X8_high, ki_X8, kx_X8_high, kd_X8_high⟩
theorem kb_X8_count : zWV yX8_count cX8_count 2 (some .int) 1 := ⟨kn_X8_count, kv_X8_count, ki_X8, kx_X8_count, kd_X8_count⟩
theorem kb_X8_isHalvings : zWS yX8_isHalvings cX8_isHalvings 1 (some .boolean) 1 := ⟨ks_X8_isHalvings, ki_X8, kx_X8_isHalvings, kd_X8_isHalvings⟩
theorem kb_X8_middleOf : zWS yX8_middleOf cX8_middleOf 2 (some .int) 2 := ⟨ks_X8_middleOf, ki_X8, kx_X8_middleOf, kd_X8_middleOf⟩
theorem kb_X8_tell : zWV yX8_tell cX8_tell 3 (some .int) 1 := ⟨kn_X8_tell, kv_X8_tell, ki_X8, kx_X8_tell, kd_X8_tell⟩
theorem kb_X8_tellHalved : zWV yX8_tellHalved cX8_tellHalved 3 (some .int) 2 := ⟨kn_X8_tellHalved, kv_X8_tellHalved, ki_X8, kx_X8_tellHalved, kd_X8_tellHalved⟩
theorem kb_X9_feed : zWV yX9_feed cX9_feed 6 (some .int) 5 := ⟨kn_X9_feed, kv_X9_feed, ki_X9, kx_X9_feed, kd_X9_feed⟩
theorem kb_X9_put : zWV yX9_put cX9_put 3 none 1 := ⟨kn_X9_put, kv_X9_put, ki_X9, kx_X9_put, kd_X9_put⟩
theorem kb_X9_end : zWV yX9_end cX9_end 2 (some .int) 1 := ⟨kn_X9_end, kv_X9_end, ki_X9, kx_X9_end, kd_X9_end⟩
theorem kb_X9_bad : zWV yX9_bad cX9_bad 1 (some .boolean) 0 := ⟨kn_X9_bad, kv_X9_bad, ki_X9, kx_X9_bad, kd_X9_bad⟩
theorem kb_X9_fails : zWV yX9_fails cX9_fails 3 (some .int) 2 := ⟨kn_X9_fails, kv_X9_fails, ki_X9, kx_X9_fails, kd_X9_fails⟩
theorem kb_X9_peek : zWV yX9_peek cX9_peek 1 (some .int) 0 := ⟨kn_X9_peek, kv_X9_peek, ki_X9, kx_X9_peek, kd_X9_peek⟩
theorem kb_X9_isDigit : zWV yX9_isDigit cX9_isDigit 2 (some .boolean) 1 := ⟨kn_X9_isDigit, kv_X9_isDigit, ki_X9, kx_X9_isDigit, kd_X9_isDigit⟩
theorem kb_X9_meets : zWV yX9_meets cX9_meets 2 none 1 := ⟨kn_X9_meets, kv_X9_meets, ki_X9, kx_X9_meets, kd_X9_meets⟩
theorem kb_X9_make : zWV yX9_make cX9_make 5 (some .int) 3 := ⟨kn_X9_make, kv_X9_make, ki_X9, kx_X9_make, kd_X9_make⟩
theorem kb_X9_sum : zWV yX9_sum cX9_sum 4 (some .int) 0 := ⟨kn_X9_sum, kv_X9_sum, ki_X9, kx_X9_sum, kd_X9_sum⟩
theorem kb_X9_term : zWV yX9_term cX9_term 4 (some .int) 0 := ⟨kn_X9_term, kv_X9_term, ki_X9, kx_X9_term, kd_X9_term⟩
theorem kb_X9_power : zWV yX9_power cX9_power 4 (some .int) 0 := ⟨kn_X9_power, kv_X9_power, ki_X9, kx_X9_power, kd_X9_power⟩
theorem kb_X9_wordEnd : zWV yX9_wordEnd cX9_wordEnd 2 (some .int) 0 := ⟨kn_X9_wordEnd, kv_X9_wordEnd, ki_X9, kx_X9_wordEnd, kd_X9_wordEnd⟩
theorem kb_X9_stands : zWV yX9_stands cX9_stands 5 (some .boolean) 2 := ⟨kn_X9_stands, kv_X9_stands, ki_X9, kx_X9_stands, kd_X9_stands⟩
theorem kb_X9_isNumber : zWV yX9_isNumber cX9_isNumber 4 (some .boolean) 1 := ⟨kn_X9_isNumber, kv_X9_isNumber, ki_X9, kx_X9_isNumber, kd_X9_isNumber⟩
theorem kb_X9_nameOf : zWV yX9_nameOf cX9_nameOf 2 (some (.object "java/lang/String")) 1 := ⟨kn_X9_nameOf, kv_X9_nameOf, ki_X9, kx_X9_nameOf, kd_X9_nameOf⟩
theorem kb_X9_need : zWV yX9_need cX9_need 2 none 1 := ⟨kn_X9_need, kv_X9_need, ki_X9, kx_X9_need, kd_X9_need⟩
theorem kb_X9_opens : zWV yX9_opens cX9_opens 1 none 0 := ⟨kn_X9_opens, kv_X9_opens, ki_X9, kx_X9_opens, kd_X9_opens⟩
theorem kb_X9_part : zWV yX9_part cX9_part 4 (some .int) 0 := ⟨kn_X9_part, kv_X9_part, ki_X9, kx_X9_part, kd_X9_part⟩
theorem kb_X9_named : zWV yX9_named cX9_named 4 (some .int) 1 := ⟨kn_X9_named, kv_X9_named, ki_X9, kx_X9_named, kd_X9_named⟩
theorem kb_X9_number : zWV yX9_number cX9_number 6 (some .int) 0 := ⟨kn_X9_number, kv_X9_number, ki_X9, kx_X9_number, kd_X9_number⟩
theorem kb_X9_curve : zWV yX9_curve cX9_curve 1 (some .int) 0 := ⟨kn_X9_curve, kv_X9_curve, ki_X9, kx_X9_curve, kd_X9_curve⟩
theorem kb_X9_drop : zWV yX9_drop cX9_drop 1 (some .int) 0 := ⟨kn_X9_drop, kv_X9_drop, ki_X9, kx_X9_drop, kd_X9_drop⟩
theorem kb_X9_has : zWV yX9_has cX9_has 2 (some .boolean) 1 := ⟨kn_X9_has, kv_X9_has, ki_X9, kx_X9_has, kd_X9_has⟩
theorem kb_X9_about : zWV yX9_about cX9_about 4 (some .int) 2 := ⟨kn_X9_about, kv_X9_about, ki_X9, kx_X9_about, kd_X9_about⟩
theorem kb_X9_looks : zWV yX9_looks cX9_looks 7 none 1 := ⟨kn_X9_looks, kv_X9_looks, ki_X9, kx_X9_looks, kd_X9_looks⟩
theorem kb_X9_down : zWS yX9_down cX9_down 6 (some .long) 2 := ⟨ks_X9_down, ki_X9, kx_X9_down, kd_X9_down⟩
theorem kb_X9_up : zWS yX9_up cX9_up 6 (some .long) 2 := ⟨ks_X9_up, ki_X9, kx_X9_up, kd_X9_up⟩
theorem kb_X9_is : zWV yX9_is cX9_is 5 none 2 := ⟨kn_X9_is, kv_X9_is, ki_X9, kx_X9_is, kd_X9_is⟩
theorem kb_X9_isHole : zWV yX9_isHole cX9_isHole 1 none 0 := ⟨kn_X9_isHole, kv_X9_isHole, ki_X9, kx_X9_isHole, kd_X9_isHole⟩
theorem kb_X9_less : zWS yX9_less cX9_less 4 (some .long) 2 := ⟨ks_X9_less, ki_X9, kx_X9_less, kd_X9_less⟩
theorem kb_X9_more : zWS yX9_more cX9_more 4 (some .long) 2 := ⟨ks_X9_more, ki_X9, kx_X9_more, kd_X9_more⟩
theorem kb_X9_times : zWV yX9_times cX9_times 13 none 4 := ⟨kn_X9_times, kv_X9_times, ki_X9, kx_X9_times, kd_X9_times⟩
theorem kb_X9_by : zWV yX9_by cX9_by 13 none 4 := ⟨kn_X9_by, kv_X9_by, ki_X9, kx_X9_by, kd_X9_by⟩
theorem kb_X9_size : zWV yX9_size cX9_size 8 (some .long) 3 := ⟨kn_X9_size, kv_X9_size, ki_X9, kx_X9_size, kd_X9_size⟩
theorem kb_X9_power_ : zWV yX9_power_ cX9_power_ 14 none 3 := ⟨kn_X9_power_, kv_X9_power_, ki_X9, kx_X9_power_, kd_X9_power_⟩
theorem kb_X9_rootDown : zWS yX9_rootDown cX9_rootDown 6 (some .long) 1 := ⟨ks_X9_rootDown, ki_X9, kx_X9_rootDown, kd_X9_rootDown⟩
theorem kb_X9_root : zWV yX9_root cX9_root 7 none 2 := ⟨kn_X9_root, kv_X9_root, ki_X9, kx_X9_root, kd_X9_root⟩
theorem kb_X9_cut : zWS yX9_cut cX9_cut 5 (some .long) 3 := ⟨ks_X9_cut, ki_X9, kx_X9_cut, kd_X9_cut⟩
theorem kb_X9_power__ : zWS yX9_power__ cX9_power__ 12 (some .long) 2 := ⟨ks_X9_power__, ki_X9, kx_X9_power__, kd_X9_power__⟩
theorem kb_X9_exp : zWV yX9_exp cX9_exp 5 none 2 := ⟨kn_X9_exp, kv_X9_exp, ki_X9, kx_X9_exp, kd_X9_exp⟩
theorem kb_X9_log : zWV yX9_log cX9_log 9 none 2 := ⟨kn_X9_log, kv_X9_log, ki_X9, kx_X9_log, kd_X9_log⟩
theorem kb_X9_halved : zWS yX9_halved cX9_halved 10 (some .long) 2 := ⟨ks_X9_halved, ki_X9, kx_X9_halved, kd_X9_halved⟩
theorem kb_X9_wave : zWV yX9_wave cX9_wave 29 none 3 := ⟨kn_X9_wave, kv_X9_wave, ki_X9, kx_X9_wave, kd_X9_wave⟩
theorem kb_X9_keepValue : zWV yX9_keepValue cX9_keepValue 2 none 1 := ⟨kn_X9_keepValue, kv_X9_keepValue, ki_X9, kx_X9_keepValue, kd_X9_keepValue⟩
theorem kb_X9_lastOf : zWV yX9_lastOf cX9_lastOf 2 (some .int) 1 := ⟨kn_X9_lastOf, kv_X9_lastOf, ki_X9, kx_X9_lastOf, kd_X9_lastOf⟩
theorem kb_X9_values : zWV yX9_values cX9_values 8 none 3 := ⟨kn_X9_values, kv_X9_values, ki_X9, kx_X9_values, kd_X9_values⟩
theorem kb_X9_value : zWV yX9_value cX9_value 17 none 3 := ⟨kn_X9_value, kv_X9_value, ki_X9, kx_X9_value, kd_X9_value⟩
theorem kb_X9_size_ : zWV yX9_size_ cX9_size_ 5 none 2 := ⟨kn_X9_size_, kv_X9_size_, ki_X9, kx_X9_size_, kd_X9_size_⟩
theorem kb_X9_slopes : zWV yX9_slopes cX9_slopes 8 none 3 := ⟨kn_X9_slopes, kv_X9_slopes, ki_X9, kx_X9_slopes, kd_X9_slopes⟩
theorem kb_X9_thenTimes : zWV yX9_thenTimes cX9_thenTimes 5 none 2 := ⟨kn_X9_thenTimes, kv_X9_thenTimes, ki_X9, kx_X9_thenTimes, kd_X9_thenTimes⟩
theorem kb_X9_slope : zWV yX9_slope cX9_slope 13 none 1 := ⟨kn_X9_slope, kv_X9_slope, ki_X9, kx_X9_slope, kd_X9_slope⟩
theorem kb_X9_products : zWV yX9_products cX9_products 9 none 3 := ⟨kn_X9_products, kv_X9_products, ki_X9, kx_X9_products, kd_X9_products⟩
theorem kb_X9_sizes : zWV yX9_sizes cX9_sizes 9 none 4 := ⟨kn_X9_sizes, kv_X9_sizes, ki_X9, kx_X9_sizes, kd_X9_sizes⟩
theorem kb_X9_chosen : zWV yX9_chosen cX9_chosen 8 none 3 := ⟨kn_X9_chosen, kv_X9_chosen, ki_X9, kx_X9_chosen, kd_X9_chosen⟩
theorem kb_X9_shut : zWV yX9_shut cX9_shut 7 (some .boolean) 3 := ⟨kn_X9_shut, kv_X9_shut, ki_X9, kx_X9_shut, kd_X9_shut⟩
theorem kb_X9_shutSlope : zWV yX9_shutSlope cX9_shutSlope 7 (some .boolean) 3 := ⟨kn_X9_shutSlope, kv_X9_shutSlope, ki_X9, kx_X9_shutSlope, kd_X9_shutSlope⟩
theorem kb_X9_tells : zWV yX9_tells cX9_tells 6 (some .int) 3 := ⟨kn_X9_tells, kv_X9_tells, ki_X9, kx_X9_tells, kd_X9_tells⟩
theorem kb_X9_at : zWV yX9_at cX9_at 5 (some .int) 3 := ⟨kn_X9_at, kv_X9_at, ki_X9, kx_X9_at, kd_X9_at⟩
theorem kb_X9_slope_ : zWV yX9_slope_ cX9_slope_ 5 (some .int) 3 := ⟨kn_X9_slope_, kv_X9_slope_, ki_X9, kx_X9_slope_, kd_X9_slope_⟩
theorem kb_X9_halve : zWV yX9_halve cX9_halve 4 none 1 := ⟨kn_X9_halve, kv_X9_halve, ki_X9, kx_X9_halve, kd_X9_halve⟩
theorem kb_X9_sumOf : zWV yX9_sumOf cX9_sumOf 13 (some .boolean) 2 := ⟨kn_X9_sumOf, kv_X9_sumOf, ki_X9, kx_X9_sumOf, kd_X9_sumOf⟩
theorem kb_X9_area : zWV yX9_area cX9_area 20 (some .int) 5 := ⟨kn_X9_area, kv_X9_area, ki_X9, kx_X9_area, kd_X9_area⟩
theorem kb_X9_looked : zWV yX9_looked cX9_looked 8 (some .int) 3 := ⟨kn_X9_looked, kv_X9_looked, ki_X9, kx_X9_looked, kd_X9_looked⟩
theorem kb_X9_signOf : zWV yX9_signOf cX9_signOf 4 (some .int) 2 := ⟨kn_X9_signOf, kv_X9_signOf, ki_X9, kx_X9_signOf, kd_X9_signOf⟩
theorem kb_X9_roots : zWV yX9_roots cX9_roots 12 (some .int) 4 := ⟨kn_X9_roots, kv_X9_roots, ki_X9, kx_X9_roots, kd_X9_roots⟩
theorem kb_X9_part_ : zWV yX9_part_ cX9_part_ 3 (some .int) 2 := ⟨kn_X9_part_, kv_X9_part_, ki_X9, kx_X9_part_, kd_X9_part_⟩
theorem kb_X9_shutOf : zWV yX9_shutOf cX9_shutOf 7 (some .boolean) 4 := ⟨kn_X9_shutOf, kv_X9_shutOf, ki_X9, kx_X9_shutOf, kd_X9_shutOf⟩
theorem kb_X9_lowOf : zWV yX9_lowOf cX9_lowOf 7 (some .boolean) 3 := ⟨kn_X9_lowOf, kv_X9_lowOf, ki_X9, kx_X9_lowOf, kd_X9_lowOf⟩
theorem kb_X9_extreme : zWV yX9_extreme cX9_extreme 11 (some .int) 5 := ⟨kn_X9_extreme, kv_X9_extreme, ki_X9, kx_X9_extreme, kd_X9_extreme⟩
theorem kb_X9_least : zWV yX9_least cX9_least 3 (some .int) 0 := ⟨kn_X9_least, kv_X9_least, ki_X9, kx_X9_least, kd_X9_least⟩
theorem kb_X9_least_ : zWV yX9_least_ cX9_least_ 5 (some .int) 4 := ⟨kn_X9_least_, kv_X9_least_, ki_X9, kx_X9_least_, kd_X9_least_⟩
theorem kb_X9_greatest : zWV yX9_greatest cX9_greatest 5 (some .int) 4 := ⟨kn_X9_greatest, kv_X9_greatest, ki_X9, kx_X9_greatest, kd_X9_greatest⟩
theorem kb_X9_never : zWV yX9_never cX9_never 15 (some .int) 5 := ⟨kn_X9_never, kv_X9_never, ki_X9, kx_X9_never, kd_X9_never⟩
theorem kb_X9_isNotAbove : zWV yX9_isNotAbove cX9_isNotAbove 5 (some .boolean) 3 := ⟨kn_X9_isNotAbove, kv_X9_isNotAbove, ki_X9, kx_X9_isNotAbove, kd_X9_isNotAbove⟩
theorem kb_X9_low : zWV yX9_low cX9_low 1 (some .long) 0 := ⟨kn_X9_low, kv_X9_low, ki_X9, kx_X9_low, kd_X9_low⟩
theorem kb_X9_high : zWV yX9_high cX9_high 1 (some .long) 0 := ⟨kn_X9_high, kv_X9_high, ki_X9, kx_X9_high, kd_X9_high⟩
theorem kb_X9_count : zWV yX9_count cX9_count 2 (some .int) 1 := ⟨kn_X9_count, kv_X9_count, ki_X9, kx_X9_count, kd_X9_count⟩
theorem kb_J9_floorDiv_f86c9 : zWS yJ9_floorDiv_f86c9 cJ9_floorDiv_f86c9 6 (some .long) 2 := ⟨ks_J9_floorDiv_f86c9, ki_J9, kx_J9_floorDiv_f86c9, kd_J9_floorDiv_f86c9⟩
theorem kb_J9_abs_067f4 : zWS yJ9_abs_067f4 cJ9_abs_067f4 2 (some .long) 1 := ⟨ks_J9_abs_067f4, ki_J9, kx_J9_abs_067f4, kd_J9_abs_067f4⟩
theorem kb_J9_max_7cf53 : zWS yJ9_max_7cf53 cJ9_max_7cf53 2 (some .int) 2 := ⟨ks_J9_max_7cf53, ki_J9, kx_J9_max_7cf53, kd_J9_max_7cf53⟩
theorem kb_J9_max_f86c9 : zWS yJ9_max_f86c9 cJ9_max_f86c9 4 (some .long) 2 := ⟨ks_J9_max_f86c9, ki_J9, kx_J9_max_f86c9, kd_J9_max_f86c9⟩
theorem kb_J9_min_7cf53 : zWS yJ9_min_7cf53 cJ9_min_7cf53 2 (some .int) 2 := ⟨ks_J9_min_7cf53, ki_J9, kx_J9_min_7cf53, kd_J9_min_7cf53⟩
theorem kb_J9_min_f86c9 : zWS yJ9_min_f86c9 cJ9_min_f86c9 4 (some .long) 2 := ⟨ks_J9_min_f86c9, ki_J9, kx_J9_min_f86c9, kd_J9_min_f86c9⟩
theorem kb_J0_length_8abf5 : zWV yJ0_length_8abf5 cJ0_length_8abf5 1 (some .int) 0 := ⟨kn_J0_length_8abf5, kv_J0_length_8abf5, ki_J0, kx_J0_length_8abf5, kd_J0_length_8abf5⟩
theorem kb_J0_charAt_5068e : zWV yJ0_charAt_5068e cJ0_charAt_5068e 2 (some .char) 1 := ⟨kn_J0_charAt_5068e, kv_J0_charAt_5068e, ki_J0, kx_J0_charAt_5068e, kd_J0_charAt_5068e⟩
theorem kb_J0_coder_7d493 : zWV yJ0_coder_7d493 cJ0_coder_7d493 1 (some .byte) 0 := ⟨kn_J0_coder_7d493, kv_J0_coder_7d493, ki_J0, kx_J0_coder_7d493, kd_J0_coder_7d493⟩
theorem kb_J0_isLatin1_aae02 : zWV yJ0_isLatin1_aae02 cJ0_isLatin1_aae02 1 (some .boolean) 0 := ⟨kn_J0_isLatin1_aae02, kv_J0_isLatin1_aae02, ki_J0, kx_J0_isLatin1_aae02, kd_J0_isLatin1_aae02⟩
theorem kb_J0_checkIndex_df160 : zWS yJ0_checkIndex_df160 cJ0_checkIndex_df160 2 none 2 := ⟨ks_J0_checkIndex_df160, ki_J0, kx_J0_checkIndex_df160, kd_J0_checkIndex_df160⟩
theorem kb_J1_charAt_3b067 : zWS yJ1_charAt_3b067 cJ1_charAt_3b067 2 (some .char) 2 := ⟨ks_J1_charAt_3b067, ki_J1, kx_J1_charAt_3b067, kd_J1_charAt_3b067⟩
theorem kb_J2_getChar_3b067 : zWS yJ2_getChar_3b067 cJ2_getChar_3b067 2 (some .char) 2 := ⟨ks_J2_getChar_3b067, ki_J2, kx_J2_getChar_3b067, kd_J2_getChar_3b067⟩
theorem kb_J2_length_9d52b : zWS yJ2_length_9d52b cJ2_length_9d52b 1 (some .int) 1 := ⟨ks_J2_length_9d52b, ki_J2, kx_J2_length_9d52b, kd_J2_length_9d52b⟩
theorem kb_J2_charAt_3b067 : zWS yJ2_charAt_3b067 cJ2_charAt_3b067 2 (some .char) 2 := ⟨ks_J2_charAt_3b067, ki_J2, kx_J2_charAt_3b067, kd_J2_charAt_3b067⟩
theorem kb_J2_checkIndex_2214a : zWS yJ2_checkIndex_2214a cJ2_checkIndex_2214a 2 none 2 := ⟨ks_J2_checkIndex_2214a, ki_J2, kx_J2_checkIndex_2214a, kd_J2_checkIndex_2214a⟩
theorem kb_J3_checkIndex_8e157 : zWS yJ3_checkIndex_8e157 cJ3_checkIndex_8e157 3 (some .int) 3 := ⟨ks_J3_checkIndex_8e157, ki_J3, kx_J3_checkIndex_8e157, kd_J3_checkIndex_8e157⟩
end
section
def zFU : Nat := 2 ^ 40
noncomputable def fJ9_floorDiv_f86c9_0 (a0 : Int64) (a2 : Int64) : Option Int64 := zg (¬ a2 = 0) <| nm (a0 / a2) fun x3_2 => 
    (if (0 : Int64) ≤ (a0 ^^^ a2) then some x3_2
    else 
      (if (x3_2 * a2) = a0 then some x3_2
      else some (x3_2 - (1 : Int64))))
noncomputable def fJ9_floorDiv_f86c9 (a0 : Int64) (a2 : Int64) : Option Int64 := fJ9_floorDiv_f86c9_0 a0 a2
set_option maxRecDepth 100000 in
set_option maxHeartbeats 4000000 in
theorem wJ9_floorDiv_f86c9_0 {T : zX} {cl ch : Nat} {σ : zSt} (hC : zOk T cJ9_floorDiv_f86c9 RJ9 0 0 cl ch) (hN : zNL T = 6) {r : Int64} (hQ : zRes T (some .long) (some (.long r)) σ) (a0 : Int64) (a2 : Int64)  (h : fJ9_floorDiv_f86c9_0 a0 a2  = some r) : Z T σ 0 [(0, .long a0), (2, .long a2)] [] := by
  unfold fJ9_floorDiv_f86c9_0 at h
  refine z_lload_n hC 0 rfl rfl dJ9_floorDiv_f86c9_0 ?_
  refine z_lload_n hC 1 rfl rfl dJ9_floorDiv_f86c9_1 ?_
  refine z_g h (fun g2_1 h => ?_)
  refine z_ldiv hC g2_1 dJ9_floorDiv_f86c9_2 ?_
  refine z_nmL h (fun x3_2 h => ?_)
  refine z_lstore hC [(4, .long x3_2), (0, .long a0), (2, .long a2)] (by rw [hN]; decide) rfl dJ9_floorDiv_f86c9_3 ?_
  refine z_lload_n hC 1 rfl rfl dJ9_floorDiv_f86c9_5 ?_
  refine z_lload_n hC 2 rfl rfl dJ9_floorDiv_f86c9_6 ?_
  refine z_lxor hC dJ9_floorDiv_f86c9_7 ?_
  refine z_lconst hC (0 : Int64) (by decide) dJ9_floorDiv_f86c9_8 ?_
  refine z_cmp_ge hC 27 (by decide) dJ9_floorDiv_f86c9_9 dJ9_floorDiv_f86c9_10 (fun q9_3 => ?_) (fun q9_3 => ?_)
  · replace h := z_t q9_3 h
    refine z_lload hC 0 rfl dJ9_floorDiv_f86c9_27 ?_
    cases h
    exact z_lret hC hQ dJ9_floorDiv_f86c9_29
  · replace h := z_f q9_3 h
    refine z_lload hC 0 rfl dJ9_floorDiv_f86c9_13 ?_
    refine z_lload_n hC 2 rfl rfl dJ9_floorDiv_f86c9_15 ?_
    refine z_lmul hC dJ9_floorDiv_f86c9_16 ?_
    refine z_lload_n hC 1 rfl rfl dJ9_floorDiv_f86c9_17 ?_
    refine z_cmp_eq hC 27 (by decide) dJ9_floorDiv_f86c9_18 dJ9_floorDiv_f86c9_19 (fun q18_4 => ?_) (fun q18_4 => ?_)
    · replace h := z_t q18_4 h
      refine z_lload hC 0 rfl dJ9_floorDiv_f86c9_27 ?_
      cases h
      exact z_lret hC hQ dJ9_floorDiv_f86c9_29
    · replace h := z_f q18_4 h
      refine z_lload hC 0 rfl dJ9_floorDiv_f86c9_22 ?_
      refine z_lconst hC (1 : Int64) (by decide) dJ9_floorDiv_f86c9_24 ?_
      refine z_lsub hC dJ9_floorDiv_f86c9_25 ?_
      cases h
      exact z_lret hC hQ dJ9_floorDiv_f86c9_26
set_option maxRecDepth 100000 in
theorem ctJ9_floorDiv_f86c9 {l : Launch} {G : zGt} {mk : zSt → zSt} {cl ch : Nat} (hm : zM mk cl ch) {a0 : Int64} {a2 : Int64} {σ : zSt} {r : Int64} (h : fJ9_floorDiv_f86c9 a0 a2  = some r) : zMet l G mk yJ9_floorDiv_f86c9 cJ9_floorDiv_f86c9 6 (some .long) 0 0 [.long a0, .long a2] σ (some (.long r)) σ := by
  unfold fJ9_floorDiv_f86c9 at h

  refine zMet.of (by decide +kernel) hm (Nat.le_of_ble_eq_true rfl) (fun T eL eG eM hN hC hQ => ?_)
  subst eL; subst eG; subst eM
  refine z_sub [(0, .long a0), (2, .long a2)] [0, 1] rfl ?_
  exact wJ9_floorDiv_f86c9_0 hC hN hQ _ _  h
noncomputable def fJ0_coder_7d493_0 (i0 : Nat) : Option Int32 := some (0 : Int32)
noncomputable def fJ0_coder_7d493 (i0 : Nat) : Option Int32 := zg (i0 < 9) <| fJ0_coder_7d493_0 i0
set_option maxRecDepth 100000 in
set_option maxHeartbeats 4000000 in
theorem wJ0_coder_7d493_0 {T : zX} {cl ch : Nat} {σ : zSt} (hC : zOk T cJ0_coder_7d493 RJ0 0 0 cl ch) (hN : zNL T = 1) {r : Int32} (hQ : zRes T (some .byte) (some (.int r)) σ) (i0 : Nat) (hi_i0 : i0 < 9) (h : fJ0_coder_7d493_0 i0  = some r) : Z T σ 0 [(0, .ref (zSk T i0))] [] := by
  unfold fJ0_coder_7d493_0 at h
  refine z_cs hC kf_J0_38 dJ0_coder_7d493_0 ?_
  refine z_if_eq hC 13 (by decide) dJ0_coder_7d493_3 (fun q => absurd q (by decide)) (fun q => ?_)
  refine z_aload_n hC 0 rfl rfl dJ0_coder_7d493_6 ?_
  refine z_strCod hC hi_i0 kf_J0_15 dJ0_coder_7d493_7 ?_
  refine z_goto hC 14 (by decide) dJ0_coder_7d493_10 ?_
  cases h
  exact z_zret hC hQ dJ0_coder_7d493_14 (by decide)
set_option maxRecDepth 100000 in
theorem ctJ0_coder_7d493 {l : Launch} {G : zGt} {mk : zSt → zSt} {cl ch : Nat} (hm : zM mk cl ch) {i0 : Nat} {σ : zSt} {r : Int32} (h : fJ0_coder_7d493 i0  = some r) : zMet l G mk yJ0_coder_7d493 cJ0_coder_7d493 1 (some .byte) 0 0 [.ref (G.2.2.1 i0)] σ (some (.int r)) σ := by
  unfold fJ0_coder_7d493 at h
  refine z_g h (fun hi_i0 h => ?_)
  refine zMet.of (plainFor_of_name (by decide +kernel)) hm (Nat.le_of_ble_eq_true rfl) (fun T eL eG eM hN hC hQ => ?_)
  subst eL; subst eG; subst eM
  refine z_sub [(0, .ref (zSk T i0))] [0] rfl ?_
  exact wJ0_coder_7d493_0 hC hN hQ _ hi_i0 h
noncomputable def fJ0_length_8abf5_0 (i0 : Nat) : Option Int32 := bd1 (fJ0_coder_7d493 i0) fun r6_1 => some (jshrI (Int32.ofNat (zLen.getD i0 0)) r6_1)
noncomputable def fJ0_length_8abf5 (i0 : Nat) : Option Int32 := zg (i0 < 9) <| fJ0_length_8abf5_0 i0
set_option maxRecDepth 100000 in
set_option maxHeartbeats 4000000 in
theorem wJ0_length_8abf5_0 {T : zX} {cl ch : Nat} {σ : zSt} (hC : zOk T cJ0_length_8abf5 RJ0 1 20 cl ch) (hN : zNL T = 1) {r : Int32} (hQ : zRes T (some .int) (some (.int r)) σ) (i0 : Nat) (hi_i0 : i0 < 9) (h : fJ0_length_8abf5_0 i0  = some r) : Z T σ 0 [(0, .ref (zSk T i0))] [] := by
  unfold fJ0_length_8abf5_0 at h
  refine z_aload_n hC 0 rfl rfl dJ0_length_8abf5_0 ?_
  refine z_strVal hC hi_i0 kf_J0_9 dJ0_length_8abf5_1 ?_
  refine z_svLen hC hi_i0 dJ0_length_8abf5_4 ?_
  refine z_aload_n hC 0 rfl rfl dJ0_length_8abf5_5 ?_
  refine z_b1 h (fun r6_1 e_r6_1 h => ?_)
  refine z_cV0r hC (ctJ0_coder_7d493 hC.hm e_r6_1) (rcJ0 hC hi_i0) kb_J0_coder_7d493 km_J0_335 ⟨by decide, by decide⟩ (Nat.le_of_ble_eq_true rfl) dJ0_length_8abf5_6 ?_
  refine z_ishr hC dJ0_length_8abf5_9 ?_
  cases h
  exact z_iret hC hQ dJ0_length_8abf5_10
set_option maxRecDepth 100000 in
theorem ctJ0_length_8abf5 {l : Launch} {G : zGt} {mk : zSt → zSt} {cl ch : Nat} (hm : zM mk cl ch) {i0 : Nat} {σ : zSt} {r : Int32} (h : fJ0_length_8abf5 i0  = some r) : zMet l G mk yJ0_length_8abf5 cJ0_length_8abf5 1 (some .int) 1 20 [.ref (G.2.2.1 i0)] σ (some (.int r)) σ := by
  unfold fJ0_length_8abf5 at h
  refine z_g h (fun hi_i0 h => ?_)
  refine zMet.of (plainFor_of_name (by decide +kernel)) hm (Nat.le_of_ble_eq_true rfl) (fun T eL eG eM hN hC hQ => ?_)
  subst eL; subst eG; subst eM
  refine z_sub [(0, .ref (zSk T i0))] [0] rfl ?_
  exact wJ0_length_8abf5_0 hC hN hQ _ hi_i0 h
noncomputable def fJ0_isLatin1_aae02_0 (i0 : Nat) : Option Int32 := some (1 : Int32)
noncomputable def fJ0_isLatin1_aae02 (i0 : Nat) : Option Int32 := zg (i0 < 9) <| fJ0_isLatin1_aae02_0 i0
set_option maxRecDepth 100000 in
set_option maxHeartbeats 4000000 in
theorem wJ0_isLatin1_aae02_0 {T : zX} {cl ch : Nat} {σ : zSt} (hC : zOk T cJ0_isLatin1_aae02 RJ0 0 0 cl ch) (hN : zNL T = 1) {r : Int32} (hQ : zRes T (some .boolean) (some (.int r)) σ) (i0 : Nat) (hi_i0 : i0 < 9) (h : fJ0_isLatin1_aae02_0 i0  = some r) : Z T σ 0 [(0, .ref (zSk T i0))] [] := by
  unfold fJ0_isLatin1_aae02_0 at h
  refine z_cs hC kf_J0_38 dJ0_isLatin1_aae02_0 ?_
  refine z_if_eq hC 17 (by decide) dJ0_isLatin1_aae02_3 (fun q => absurd q (by decide)) (fun q => ?_)
  refine z_aload_n hC 0 rfl rfl dJ0_isLatin1_aae02_6 ?_
  refine z_strCod hC hi_i0 kf_J0_15 dJ0_isLatin1_aae02_7 ?_
  refine z_if_ne hC 17 (by decide) dJ0_isLatin1_aae02_10 (fun q => absurd q (by decide)) (fun q => ?_)
  refine z_iconst hC (1 : Int32) (by decide) dJ0_isLatin1_aae02_13 ?_
  refine z_goto hC 18 (by decide) dJ0_isLatin1_aae02_14 ?_
  cases h
  exact z_zret hC hQ dJ0_isLatin1_aae02_18 (by decide)
set_option maxRecDepth 100000 in
theorem ctJ0_isLatin1_aae02 {l : Launch} {G : zGt} {mk : zSt → zSt} {cl ch : Nat} (hm : zM mk cl ch) {i0 : Nat} {σ : zSt} {r : Int32} (h : fJ0_isLatin1_aae02 i0  = some r) : zMet l G mk yJ0_isLatin1_aae02 cJ0_isLatin1_aae02 1 (some .boolean) 0 0 [.ref (G.2.2.1 i0)] σ (some (.int r)) σ := by
  unfold fJ0_isLatin1_aae02 at h
  refine z_g h (fun hi_i0 h => ?_)
  refine zMet.of (plainFor_of_name (by decide +kernel)) hm (Nat.le_of_ble_eq_true rfl) (fun T eL eG eM hN hC hQ => ?_)
  subst eL; subst eG; subst eM
  refine z_sub [(0, .ref (zSk T i0))] [0] rfl ?_
  exact wJ0_isLatin1_aae02_0 hC hN hQ _ hi_i0 h
noncomputable def fJ1_charAt_3b067_0 (a0 : Nat) (a1 : Int32) : Option Int32 := none
noncomputable def fJ1_charAt_3b067 (a0 : Nat) (a1 : Int32) : Option Int32 := zg (a0 < 9) <| fJ1_charAt_3b067_0 a0 a1
set_option maxRecDepth 100000 in
set_option maxHeartbeats 4000000 in
theorem wJ1_charAt_3b067_0 {T : zX} {cl ch : Nat} {σ : zSt} (hC : zOk T cJ1_charAt_3b067 RJ1 0 0 cl ch) (hN : zNL T = 2) {r : Int32} (hQ : zRes T (some .char) (some (.int r)) σ) (a0 : Nat) (a1 : Int32) (hi_a0 : a0 < 9) (h : fJ1_charAt_3b067_0 a0 a1  = some r) : Z T σ 0 [(0, .ref (zSv T a0)), (1, .int a1)] [] := by
  unfold fJ1_charAt_3b067_0 at h
  refine z_iload_n hC 1 rfl rfl dJ1_charAt_3b067_0 ?_
  refine z_aload_n hC 0 rfl rfl dJ1_charAt_3b067_1 ?_
  refine z_svLen hC hi_a0 dJ1_charAt_3b067_2 ?_
  cases h
set_option maxRecDepth 100000 in
theorem ctJ1_charAt_3b067 {l : Launch} {G : zGt} {mk : zSt → zSt} {cl ch : Nat} (hm : zM mk cl ch) {a0 : Nat} {a1 : Int32} {σ : zSt} {r : Int32} (h : fJ1_charAt_3b067 a0 a1  = some r) : zMet l G mk yJ1_charAt_3b067 cJ1_charAt_3b067 2 (some .char) 0 0 [.ref (G.2.2.2.1 a0), .int a1] σ (some (.int r)) σ := by
  unfold fJ1_charAt_3b067 at h
  refine z_g h (fun hi_a0 h => ?_)
  refine zMet.of (plainFor_of_name (by decide +kernel)) hm (Nat.le_of_ble_eq_true rfl) (fun T eL eG eM hN hC hQ => ?_)
  subst eL; subst eG; subst eM
  refine z_sub [(0, .ref (zSv T a0)), (1, .int a1)] [0, 1] rfl ?_
  exact wJ1_charAt_3b067_0 hC hN hQ _ _ hi_a0 h
noncomputable def fJ0_charAt_5068e_0 (i0 : Nat) (a1 : Int32) : Option Int32 := bd1 (fJ0_isLatin1_aae02 i0) fun r1_1 => 
    (if r1_1 = 0 then none
    else bd1 (fJ1_charAt_3b067 i0 a1) fun r12_3 => zg (narrow .char (.int r12_3) = .int r12_3) <| some r12_3)
noncomputable def fJ0_charAt_5068e (i0 : Nat) (a1 : Int32) : Option Int32 := zg (i0 < 9) <| fJ0_charAt_5068e_0 i0 a1
set_option maxRecDepth 100000 in
set_option maxHeartbeats 4000000 in
theorem wJ0_charAt_5068e_0 {T : zX} {cl ch : Nat} {σ : zSt} (hC : zOk T cJ0_charAt_5068e RJ0 1 21 cl ch) (hN : zNL T = 2) {r : Int32} (hQ : zRes T (some .char) (some (.int r)) σ) (i0 : Nat) (a1 : Int32) (hi_i0 : i0 < 9) (h : fJ0_charAt_5068e_0 i0 a1  = some r) : Z T σ 0 [(0, .ref (zSk T i0)), (1, .int a1)] [] := by
  unfold fJ0_charAt_5068e_0 at h
  refine z_aload_n hC 0 rfl rfl dJ0_charAt_5068e_0 ?_
  refine z_b1 h (fun r1_1 e_r1_1 h => ?_)
  refine z_cV0r hC (ctJ0_isLatin1_aae02 hC.hm e_r1_1) (rcJ0 hC hi_i0) kb_J0_isLatin1_aae02 km_J0_492 ⟨by decide, by decide⟩ (Nat.le_of_ble_eq_true rfl) dJ0_charAt_5068e_1 ?_
  refine z_if_eq hC 16 (by decide) dJ0_charAt_5068e_4 (fun q4_2 => ?_) (fun q4_2 => ?_)
  · replace h := z_t q4_2 h
    refine z_aload_n hC 0 rfl rfl dJ0_charAt_5068e_16 ?_
    refine z_strVal hC hi_i0 kf_J0_9 dJ0_charAt_5068e_17 ?_
    refine z_iload_n hC 1 rfl rfl dJ0_charAt_5068e_20 ?_
    cases h
  · replace h := z_f q4_2 h
    refine z_aload_n hC 0 rfl rfl dJ0_charAt_5068e_7 ?_
    refine z_strVal hC hi_i0 kf_J0_9 dJ0_charAt_5068e_8 ?_
    refine z_iload_n hC 1 rfl rfl dJ0_charAt_5068e_11 ?_
    refine z_b1 h (fun r12_3 e_r12_3 h => ?_)
    refine z_cS2r hC (ctJ1_charAt_3b067 hC.hm e_r12_3) kb_J1_charAt_3b067 km_J0_495 ⟨by decide, by decide⟩ (Nat.le_of_ble_eq_true rfl) dJ0_charAt_5068e_12 ?_
    refine z_g h (fun g15_4 h => ?_)
    cases h
    exact z_zret hC hQ dJ0_charAt_5068e_15 g15_4
set_option maxRecDepth 100000 in
theorem ctJ0_charAt_5068e {l : Launch} {G : zGt} {mk : zSt → zSt} {cl ch : Nat} (hm : zM mk cl ch) {i0 : Nat} {a1 : Int32} {σ : zSt} {r : Int32} (h : fJ0_charAt_5068e i0 a1  = some r) : zMet l G mk yJ0_charAt_5068e cJ0_charAt_5068e 2 (some .char) 1 21 [.ref (G.2.2.1 i0), .int a1] σ (some (.int r)) σ := by
  unfold fJ0_charAt_5068e at h
  refine z_g h (fun hi_i0 h => ?_)
  refine zMet.of (plainFor_of_name (by decide +kernel)) hm (Nat.le_of_ble_eq_true rfl) (fun T eL eG eM hN hC hQ => ?_)
  subst eL; subst eG; subst eM
  refine z_sub [(0, .ref (zSk T i0)), (1, .int a1)] [0, 1] rfl ?_
  exact wJ0_charAt_5068e_0 hC hN hQ _ _ hi_i0 h
end
section
noncomputable def fX5_of_0 (a0 : Int64) (a2 : Int64) : Int64 := 
    (if a0 < (-2147483648 : Int64) then (4294967296 : Int64)
    else 
      (if (2147483647 : Int64) < a2 then (4294967296 : Int64)
      else 
        (if a0 ≤ a2 then ((jshlL a0 (32 : Int32)) ||| (a2 &&& (4294967295 : Int64)))
        else (4294967296 : Int64))))
noncomputable def fX5_of (a0 : Int64) (a2 : Int64) : Int64 := fX5_of_0 a0 a2
set_option maxRecDepth 100000 in
set_option maxHeartbeats 4000000 in
theorem wX5_of_0 {T : zX} {cl ch : Nat} {σ : zSt} (hC : zOk T cX5_of RX5 0 0 cl ch) (hN : zNL T = 4) {r : Int64} (hQ : zRes T (some .long) (some (.long r)) σ) (a0 : Int64) (a2 : Int64)  (h : fX5_of_0 a0 a2  = r) : Z T σ 0 [(0, .long a0), (2, .long a2)] [] := by
  unfold fX5_of_0 at h
  refine z_lload_n hC 0 rfl rfl dX5_of_0 ?_
  refine z_ldc2 hC kc_X5_9 dX5_of_1 ?_
  refine z_cmp_lt hC 22 (by decide) dX5_of_4 dX5_of_5 (fun q4_1 => ?_) (fun q4_1 => ?_)
  · replace h := z_t q4_1 h
    refine z_ldc2 hC kc_X5_15 dX5_of_22 ?_
    subst h
    exact z_lret hC hQ dX5_of_25
  · replace h := z_f q4_1 h
    refine z_lload_n hC 1 rfl rfl dX5_of_8 ?_
    refine z_ldc2 hC kc_X5_11 dX5_of_9 ?_
    refine z_cmp_gt hC 22 (by decide) dX5_of_12 dX5_of_13 (fun q12_2 => ?_) (fun q12_2 => ?_)
    · replace h := z_t q12_2 h
      refine z_ldc2 hC kc_X5_15 dX5_of_22 ?_
      subst h
      exact z_lret hC hQ dX5_of_25
    · replace h := z_f q12_2 h
      refine z_lload_n hC 0 rfl rfl dX5_of_16 ?_
      refine z_lload_n hC 1 rfl rfl dX5_of_17 ?_
      refine z_cmp_le hC 26 (by decide) dX5_of_18 dX5_of_19 (fun q18_3 => ?_) (fun q18_3 => ?_)
      · replace h := z_t q18_3 h
        refine z_lload_n hC 0 rfl rfl dX5_of_26 ?_
        refine z_bipush hC (32 : Int32) (by decide) dX5_of_27 ?_
        refine z_lshl hC dX5_of_29 ?_
        refine z_lload_n hC 1 rfl rfl dX5_of_30 ?_
        refine z_ldc2 hC kc_X5_17 dX5_of_31 ?_
        refine z_land hC dX5_of_34 ?_
        refine z_lor hC dX5_of_35 ?_
        subst h
        exact z_lret hC hQ dX5_of_36
      · replace h := z_f q18_3 h
        refine z_ldc2 hC kc_X5_15 dX5_of_22 ?_
        subst h
        exact z_lret hC hQ dX5_of_25
set_option maxRecDepth 100000 in
theorem ctX5_of {l : Launch} {G : zGt} {mk : zSt → zSt} {cl ch : Nat} (hm : zM mk cl ch) {a0 : Int64} {a2 : Int64} {σ : zSt} : zMet l G mk yX5_of cX5_of 4 (some .long) 0 0 [.long a0, .long a2] σ (some (.long (fX5_of a0 a2 ))) σ := by

  refine zMet.of (plainFor_of_name (by decide +kernel)) hm (Nat.le_of_ble_eq_true rfl) (fun T eL eG eM hN hC hQ => ?_)
  subst eL; subst eG; subst eM
  refine z_sub [(0, .long a0), (2, .long a2)] [0, 1] rfl ?_
  exact wX5_of_0 hC hN hQ _ _  rfl
noncomputable def fX5_highOf_0 (a0 : Int64) : Int64 := (Int32.toInt64 (Int64.toInt32 a0))
noncomputable def fX5_highOf (a0 : Int64) : Int64 := fX5_highOf_0 a0
set_option maxRecDepth 100000 in
set_option maxHeartbeats 4000000 in
theorem wX5_highOf_0 {T : zX} {cl ch : Nat} {σ : zSt} (hC : zOk T cX5_highOf RX5 0 0 cl ch) (hN : zNL T = 2) {r : Int64} (hQ : zRes T (some .long) (some (.long r)) σ) (a0 : Int64)  (h : fX5_highOf_0 a0  = r) : Z T σ 0 [(0, .long a0)] [] := by
  unfold fX5_highOf_0 at h
  refine z_lload_n hC 0 rfl rfl dX5_highOf_0 ?_
  refine z_l2i hC dX5_highOf_1 ?_
  refine z_i2l hC dX5_highOf_2 ?_
  subst h
  exact z_lret hC hQ dX5_highOf_3
set_option maxRecDepth 100000 in
theorem ctX5_highOf {l : Launch} {G : zGt} {mk : zSt → zSt} {cl ch : Nat} (hm : zM mk cl ch) {a0 : Int64} {σ : zSt} : zMet l G mk yX5_highOf cX5_highOf 2 (some .long) 0 0 [.long a0] σ (some (.long (fX5_highOf a0 ))) σ := by

  refine zMet.of (plainFor_of_name (by decide +kernel)) hm (Nat.le_of_ble_eq_true rfl) (fun T eL eG eM hN hC hQ => ?_)
  subst eL; subst eG; subst eM
  refine z_sub [(0, .long a0)] [0] rfl ?_
  exact wX5_highOf_0 hC hN hQ _  rfl
noncomputable def fX5_lowOf_0 (a0 : Int64) : Int64 := (jshrL a0 (32 : Int32))
noncomputable def fX5_lowOf (a0 : Int64) : Int64 := fX5_lowOf_0 a0
set_option maxRecDepth 100000 in
set_option maxHeartbeats 4000000 in
theorem wX5_lowOf_0 {T : zX} {cl ch : Nat} {σ : zSt} (hC : zOk T cX5_lowOf RX5 0 0 cl ch) (hN : zNL T = 2) {r : Int64} (hQ : zRes T (some .long) (some (.long r)) σ) (a0 : Int64)  (h : fX5_lowOf_0 a0  = r) : Z T σ 0 [(0, .long a0)] [] := by
  unfold fX5_lowOf_0 at h
  refine z_lload_n hC 0 rfl rfl dX5_lowOf_0 ?_
  refine z_bipush hC (32 : Int32) (by decide) dX5_lowOf_1 ?_
  refine z_lshr hC dX5_lowOf_3 ?_
  subst h
  exact z_lret hC hQ dX5_lowOf_4
set_option maxRecDepth 100000 in
theorem ctX5_lowOf {l : Launch} {G : zGt} {mk : zSt → zSt} {cl ch : Nat} (hm : zM mk cl ch) {a0 : Int64} {σ : zSt} : zMet l G mk yX5_lowOf cX5_lowOf 2 (some .long) 0 0 [.long a0] σ (some (.long (fX5_lowOf a0 ))) σ := by

  refine zMet.of (plainFor_of_name (by decide +kernel)) hm (Nat.le_of_ble_eq_true rfl) (fun T eL eG eM hN hC hQ => ?_)
  subst eL; subst eG; subst eM
  refine z_sub [(0, .long a0)] [0] rfl ?_
  exact wX5_lowOf_0 hC hN hQ _  rfl
noncomputable def fX5_turned_0 (a0 : Int64) : Int64 := 
    (if a0 = (4294967296 : Int64) then (4294967296 : Int64)
    else (fX5_of (-(fX5_highOf a0)) (-(fX5_lowOf a0))))
noncomputable def fX5_turned (a0 : Int64) : Int64 := fX5_turned_0 a0
set_option maxRecDepth 100000 in
set_option maxHeartbeats 4000000 in
theorem wX5_turned_0 {T : zX} {cl ch : Nat} {σ : zSt} (hC : zOk T cX5_turned RX5 1 23 cl ch) (hN : zNL T = 2) {r : Int64} (hQ : zRes T (some .long) (some (.long r)) σ) (a0 : Int64)  (h : fX5_turned_0 a0  = r) : Z T σ 0 [(0, .long a0)] [] := by
  unfold fX5_turned_0 at h
  refine z_lload_n hC 0 rfl rfl dX5_turned_0 ?_
  refine z_ldc2 hC kc_X5_15 dX5_turned_1 ?_
  refine z_cmp_ne hC 14 (by decide) dX5_turned_4 dX5_turned_5 (fun q4_1 => ?_) (fun q4_1 => ?_)
  · replace h := z_f q4_1 h
    refine z_lload_n hC 0 rfl rfl dX5_turned_14 ?_
    refine z_cS1r hC (ctX5_highOf hC.hm) kb_X5_highOf km_X5_23 ⟨by decide, by decide⟩ (Nat.le_of_ble_eq_true rfl) dX5_turned_15 ?_
    refine z_lneg hC dX5_turned_18 ?_
    refine z_lload_n hC 0 rfl rfl dX5_turned_19 ?_
    refine z_cS1r hC (ctX5_lowOf hC.hm) kb_X5_lowOf km_X5_19 ⟨by decide, by decide⟩ (Nat.le_of_ble_eq_true rfl) dX5_turned_20 ?_
    refine z_lneg hC dX5_turned_23 ?_
    refine z_cS2r hC (ctX5_of hC.hm) kb_X5_of km_X5_30 ⟨by decide, by decide⟩ (Nat.le_of_ble_eq_true rfl) dX5_turned_24 ?_
    subst h
    exact z_lret hC hQ dX5_turned_27
  · replace h := z_t q4_1 h
    refine z_ldc2 hC kc_X5_15 dX5_turned_8 ?_
    refine z_goto hC 27 (by decide) dX5_turned_11 ?_
    subst h
    exact z_lret hC hQ dX5_turned_27
set_option maxRecDepth 100000 in
theorem ctX5_turned {l : Launch} {G : zGt} {mk : zSt → zSt} {cl ch : Nat} (hm : zM mk cl ch) {a0 : Int64} {σ : zSt} : zMet l G mk yX5_turned cX5_turned 2 (some .long) 1 23 [.long a0] σ (some (.long (fX5_turned a0 ))) σ := by

  refine zMet.of (plainFor_of_name (by decide +kernel)) hm (Nat.le_of_ble_eq_true rfl) (fun T eL eG eM hN hC hQ => ?_)
  subst eL; subst eG; subst eM
  refine z_sub [(0, .long a0)] [0] rfl ?_
  exact wX5_turned_0 hC hN hQ _  rfl
noncomputable def fX5_grownDown_6 (K6 : Int64 → Int64 → Int64 → Int64 → Option Int64) (v0 : Int64) (v2 : Int64) (v4 : Int64) (v6 : Int64) : Option Int64 := 
    (if v2 ≤ v6 then 
      (if v4 ≤ (2147483648 : Int64) then some v4
      else some (1099511627776 : Int64))
    else 
      (if (2147483648 : Int64) < v4 then 
        (if v4 ≤ (2147483648 : Int64) then some v4
        else some (1099511627776 : Int64))
      else nm (jshrL (v4 * v0) (20 : Int32)) fun x29_5 => nm (v6 + (1 : Int64)) fun x35_6 => K6 v0 v2 x29_5 x35_6))
noncomputable def fX5_grownDown_L6 : Nat → Int64 → Int64 → Int64 → Int64 → Option Int64
  | 0, _, _, _, _ => none
  | n + 1, v0, v2, v4, v6 => fX5_grownDown_6 (fX5_grownDown_L6 n) v0 v2 v4 v6 
noncomputable def fX5_grownDown_0 (a0 : Int64) (a2 : Int64) : Option Int64 := fX5_grownDown_L6 zFU a0 a2 a0 (1 : Int64)
noncomputable def fX5_grownDown (a0 : Int64) (a2 : Int64) : Option Int64 := fX5_grownDown_0 a0 a2
set_option maxRecDepth 100000 in
set_option maxHeartbeats 4000000 in
theorem wX5_grownDown_6 {T : zX} {cl ch : Nat} {σ : zSt} (hC : zOk T cX5_grownDown RX5 0 0 cl ch) (hN : zNL T = 8) {r : Int64} (hQ : zRes T (some .long) (some (.long r)) σ) (K6 : Int64 → Int64 → Int64 → Int64 → Option Int64) (hK6 : ∀ (v0 : Int64) (v2 : Int64) (v4 : Int64) (v6 : Int64), K6 v0 v2 v4 v6  = some r → Z T σ 6 [(0, .long v0), (2, .long v2), (4, .long v4), (6, .long v6)] []) (v0 : Int64) (v2 : Int64) (v4 : Int64) (v6 : Int64)  (h : fX5_grownDown_6 K6 v0 v2 v4 v6  = some r) : Z T σ 6 [(0, .long v0), (2, .long v2), (4, .long v4), (6, .long v6)] [] := by
  unfold fX5_grownDown_6 at h
  refine z_lload hC 3 rfl dX5_grownDown_6 ?_
  refine z_lload_n hC 1 rfl rfl dX5_grownDown_8 ?_
  refine z_cmp_ge hC 40 (by decide) dX5_grownDown_9 dX5_grownDown_10 (fun q9_1 => ?_) (fun q9_1 => ?_)
  · replace h := z_t q9_1 h
    refine z_lload hC 2 rfl dX5_grownDown_40 ?_
    refine z_ldc2 hC kc_X5_58 dX5_grownDown_42 ?_
    refine z_cmp_le hC 55 (by decide) dX5_grownDown_45 dX5_grownDown_46 (fun q45_2 => ?_) (fun q45_2 => ?_)
    · replace h := z_t q45_2 h
      refine z_lload hC 2 rfl dX5_grownDown_55 ?_
      cases h
      exact z_lret hC hQ dX5_grownDown_57
    · replace h := z_f q45_2 h
      refine z_ldc2 hC kc_X5_60 dX5_grownDown_49 ?_
      refine z_goto hC 57 (by decide) dX5_grownDown_52 ?_
      cases h
      exact z_lret hC hQ dX5_grownDown_57
  · replace h := z_f q9_1 h
    refine z_lload hC 2 rfl dX5_grownDown_13 ?_
    refine z_ldc2 hC kc_X5_58 dX5_grownDown_15 ?_
    refine z_cmp_gt hC 40 (by decide) dX5_grownDown_18 dX5_grownDown_19 (fun q18_3 => ?_) (fun q18_3 => ?_)
    · replace h := z_t q18_3 h
      refine z_lload hC 2 rfl dX5_grownDown_40 ?_
      refine z_ldc2 hC kc_X5_58 dX5_grownDown_42 ?_
      refine z_cmp_le hC 55 (by decide) dX5_grownDown_45 dX5_grownDown_46 (fun q45_4 => ?_) (fun q45_4 => ?_)
      · replace h := z_t q45_4 h
        refine z_lload hC 2 rfl dX5_grownDown_55 ?_
        cases h
        exact z_lret hC hQ dX5_grownDown_57
      · replace h := z_f q45_4 h
        refine z_ldc2 hC kc_X5_60 dX5_grownDown_49 ?_
        refine z_goto hC 57 (by decide) dX5_grownDown_52 ?_
        cases h
        exact z_lret hC hQ dX5_grownDown_57
    · replace h := z_f q18_3 h
      refine z_lload hC 2 rfl dX5_grownDown_22 ?_
      refine z_lload_n hC 0 rfl rfl dX5_grownDown_24 ?_
      refine z_lmul hC dX5_grownDown_25 ?_
      refine z_bipush hC (20 : Int32) (by decide) dX5_grownDown_26 ?_
      refine z_lshr hC dX5_grownDown_28 ?_
      refine z_nmL h (fun x29_5 h => ?_)
      refine z_lstore hC [(4, .long x29_5), (0, .long v0), (2, .long v2), (6, .long v6)] (by rw [hN]; decide) rfl dX5_grownDown_29 ?_
      refine z_lload hC 3 rfl dX5_grownDown_31 ?_
      refine z_lconst hC (1 : Int64) (by decide) dX5_grownDown_33 ?_
      refine z_ladd hC dX5_grownDown_34 ?_
      refine z_nmL h (fun x35_6 h => ?_)
      refine z_lstore hC [(6, .long x35_6), (4, .long x29_5), (0, .long v0), (2, .long v2)] (by rw [hN]; decide) rfl dX5_grownDown_35 ?_
      refine z_goto hC 6 (by decide) dX5_grownDown_37 ?_
      refine z_sub [(0, .long v0), (2, .long v2), (4, .long x29_5), (6, .long x35_6)] [2, 3, 1, 0] rfl ?_
      exact hK6 _ _ _ _ h
theorem wX5_grownDown_L6 {T : zX} {cl ch : Nat} {σ : zSt} (hC : zOk T cX5_grownDown RX5 0 0 cl ch) (hN : zNL T = 8) {r : Int64} (hQ : zRes T (some .long) (some (.long r)) σ) (n : Nat) : ∀ (v0 : Int64) (v2 : Int64) (v4 : Int64) (v6 : Int64), fX5_grownDown_L6 n v0 v2 v4 v6  = some r → Z T σ 6 [(0, .long v0), (2, .long v2), (4, .long v4), (6, .long v6)] [] := by
  induction n with
  | zero => intro v0 v2 v4 v6 h; cases h
  | succ n ih => intro v0 v2 v4 v6 h; exact wX5_grownDown_6 hC hN hQ (fX5_grownDown_L6 n) ih v0 v2 v4 v6 h
set_option maxRecDepth 100000 in
set_option maxHeartbeats 4000000 in
theorem wX5_grownDown_0 {T : zX} {cl ch : Nat} {σ : zSt} (hC : zOk T cX5_grownDown RX5 0 0 cl ch) (hN : zNL T = 8) {r : Int64} (hQ : zRes T (some .long) (some (.long r)) σ) (a0 : Int64) (a2 : Int64)  (h : fX5_grownDown_0 a0 a2  = some r) : Z T σ 0 [(0, .long a0), (2, .long a2)] [] := by
  unfold fX5_grownDown_0 at h
  refine z_lload_n hC 0 rfl rfl dX5_grownDown_0 ?_
  refine z_lstore hC [(4, .long a0), (0, .long a0), (2, .long a2)] (by rw [hN]; decide) rfl dX5_grownDown_1 ?_
  refine z_lconst hC (1 : Int64) (by decide) dX5_grownDown_3 ?_
  refine z_lstore hC [(6, .long (1 : Int64)), (4, .long a0), (0, .long a0), (2, .long a2)] (by rw [hN]; decide) rfl dX5_grownDown_4 ?_
  refine z_sub [(0, .long a0), (2, .long a2), (4, .long a0), (6, .long (1 : Int64))] [2, 3, 1, 0] rfl ?_
  exact (wX5_grownDown_L6 hC hN hQ zFU) _ _ _ _ h
set_option maxRecDepth 100000 in
theorem ctX5_grownDown {l : Launch} {G : zGt} {mk : zSt → zSt} {cl ch : Nat} (hm : zM mk cl ch) {a0 : Int64} {a2 : Int64} {σ : zSt} {r : Int64} (h : fX5_grownDown a0 a2  = some r) : zMet l G mk yX5_grownDown cX5_grownDown 8 (some .long) 0 0 [.long a0, .long a2] σ (some (.long r)) σ := by
  unfold fX5_grownDown at h

  refine zMet.of (plainFor_of_name (by decide +kernel)) hm (Nat.le_of_ble_eq_true rfl) (fun T eL eG eM hN hC hQ => ?_)
  subst eL; subst eG; subst eM
  refine z_sub [(0, .long a0), (2, .long a2)] [0, 1] rfl ?_
  exact wX5_grownDown_0 hC hN hQ _ _  h
noncomputable def fX5_grownUp_6 (K6 : Int64 → Int64 → Int64 → Int64 → Option Int64) (v0 : Int64) (v2 : Int64) (v4 : Int64) (v6 : Int64) : Option Int64 := 
    (if v2 ≤ v6 then 
      (if v4 ≤ (2147483648 : Int64) then some v4
      else some (1099511627776 : Int64))
    else 
      (if (2147483648 : Int64) < v4 then 
        (if v4 ≤ (2147483648 : Int64) then some v4
        else some (1099511627776 : Int64))
      else nm (jshrL (((v4 * v0) + (1048576 : Int64)) - (1 : Int64)) (20 : Int32)) fun x35_5 => nm (v6 + (1 : Int64)) fun x41_6 => K6 v0 v2 x35_5 x41_6))
noncomputable def fX5_grownUp_L6 : Nat → Int64 → Int64 → Int64 → Int64 → Option Int64
  | 0, _, _, _, _ => none
  | n + 1, v0, v2, v4, v6 => fX5_grownUp_6 (fX5_grownUp_L6 n) v0 v2 v4 v6 
noncomputable def fX5_grownUp_0 (a0 : Int64) (a2 : Int64) : Option Int64 := fX5_grownUp_L6 zFU a0 a2 a0 (1 : Int64)
noncomputable def fX5_grownUp (a0 : Int64) (a2 : Int64) : Option Int64 := fX5_grownUp_0 a0 a2
set_option maxRecDepth 100000 in
set_option maxHeartbeats 4000000 in
theorem wX5_grownUp_6 {T : zX} {cl ch : Nat} {σ : zSt} (hC : zOk T cX5_grownUp RX5 0 0 cl ch) (hN : zNL T = 8) {r : Int64} (hQ : zRes T (some .long) (some (.long r)) σ) (K6 : Int64 → Int64 → Int64 → Int64 → Option Int64) (hK6 : ∀ (v0 : Int64) (v2 : Int64) (v4 : Int64) (v6 : Int64), K6 v0 v2 v4 v6  = some r → Z T σ 6 [(0, .long v0), (2, .long v2), (4, .long v4), (6, .long v6)] []) (v0 : Int64) (v2 : Int64) (v4 : Int64) (v6 : Int64)  (h : fX5_grownUp_6 K6 v0 v2 v4 v6  = some r) : Z T σ 6 [(0, .long v0), (2, .long v2), (4, .long v4), (6, .long v6)] [] := by
  unfold fX5_grownUp_6 at h
  refine z_lload hC 3 rfl dX5_grownUp_6 ?_
  refine z_lload_n hC 1 rfl rfl dX5_grownUp_8 ?_
  refine z_cmp_ge hC 46 (by decide) dX5_grownUp_9 dX5_grownUp_10 (fun q9_1 => ?_) (fun q9_1 => ?_)
  · replace h := z_t q9_1 h
    refine z_lload hC 2 rfl dX5_grownUp_46 ?_
    refine z_ldc2 hC kc_X5_58 dX5_grownUp_48 ?_
    refine z_cmp_le hC 61 (by decide) dX5_grownUp_51 dX5_grownUp_52 (fun q51_2 => ?_) (fun q51_2 => ?_)
    · replace h := z_t q51_2 h
      refine z_lload hC 2 rfl dX5_grownUp_61 ?_
      cases h
      exact z_lret hC hQ dX5_grownUp_63
    · replace h := z_f q51_2 h
      refine z_ldc2 hC kc_X5_60 dX5_grownUp_55 ?_
      refine z_goto hC 63 (by decide) dX5_grownUp_58 ?_
      cases h
      exact z_lret hC hQ dX5_grownUp_63
  · replace h := z_f q9_1 h
    refine z_lload hC 2 rfl dX5_grownUp_13 ?_
    refine z_ldc2 hC kc_X5_58 dX5_grownUp_15 ?_
    refine z_cmp_gt hC 46 (by decide) dX5_grownUp_18 dX5_grownUp_19 (fun q18_3 => ?_) (fun q18_3 => ?_)
    · replace h := z_t q18_3 h
      refine z_lload hC 2 rfl dX5_grownUp_46 ?_
      refine z_ldc2 hC kc_X5_58 dX5_grownUp_48 ?_
      refine z_cmp_le hC 61 (by decide) dX5_grownUp_51 dX5_grownUp_52 (fun q51_4 => ?_) (fun q51_4 => ?_)
      · replace h := z_t q51_4 h
        refine z_lload hC 2 rfl dX5_grownUp_61 ?_
        cases h
        exact z_lret hC hQ dX5_grownUp_63
      · replace h := z_f q51_4 h
        refine z_ldc2 hC kc_X5_60 dX5_grownUp_55 ?_
        refine z_goto hC 63 (by decide) dX5_grownUp_58 ?_
        cases h
        exact z_lret hC hQ dX5_grownUp_63
    · replace h := z_f q18_3 h
      refine z_lload hC 2 rfl dX5_grownUp_22 ?_
      refine z_lload_n hC 0 rfl rfl dX5_grownUp_24 ?_
      refine z_lmul hC dX5_grownUp_25 ?_
      refine z_ldc2 hC kc_X5_62 dX5_grownUp_26 ?_
      refine z_ladd hC dX5_grownUp_29 ?_
      refine z_lconst hC (1 : Int64) (by decide) dX5_grownUp_30 ?_
      refine z_lsub hC dX5_grownUp_31 ?_
      refine z_bipush hC (20 : Int32) (by decide) dX5_grownUp_32 ?_
      refine z_lshr hC dX5_grownUp_34 ?_
      refine z_nmL h (fun x35_5 h => ?_)
      refine z_lstore hC [(4, .long x35_5), (0, .long v0), (2, .long v2), (6, .long v6)] (by rw [hN]; decide) rfl dX5_grownUp_35 ?_
      refine z_lload hC 3 rfl dX5_grownUp_37 ?_
      refine z_lconst hC (1 : Int64) (by decide) dX5_grownUp_39 ?_
      refine z_ladd hC dX5_grownUp_40 ?_
      refine z_nmL h (fun x41_6 h => ?_)
      refine z_lstore hC [(6, .long x41_6), (4, .long x35_5), (0, .long v0), (2, .long v2)] (by rw [hN]; decide) rfl dX5_grownUp_41 ?_
      refine z_goto hC 6 (by decide) dX5_grownUp_43 ?_
      refine z_sub [(0, .long v0), (2, .long v2), (4, .long x35_5), (6, .long x41_6)] [2, 3, 1, 0] rfl ?_
      exact hK6 _ _ _ _ h
theorem wX5_grownUp_L6 {T : zX} {cl ch : Nat} {σ : zSt} (hC : zOk T cX5_grownUp RX5 0 0 cl ch) (hN : zNL T = 8) {r : Int64} (hQ : zRes T (some .long) (some (.long r)) σ) (n : Nat) : ∀ (v0 : Int64) (v2 : Int64) (v4 : Int64) (v6 : Int64), fX5_grownUp_L6 n v0 v2 v4 v6  = some r → Z T σ 6 [(0, .long v0), (2, .long v2), (4, .long v4), (6, .long v6)] [] := by
  induction n with
  | zero => intro v0 v2 v4 v6 h; cases h
  | succ n ih => intro v0 v2 v4 v6 h; exact wX5_grownUp_6 hC hN hQ (fX5_grownUp_L6 n) ih v0 v2 v4 v6 h
set_option maxRecDepth 100000 in
set_option maxHeartbeats 4000000 in
theorem wX5_grownUp_0 {T : zX} {cl ch : Nat} {σ : zSt} (hC : zOk T cX5_grownUp RX5 0 0 cl ch) (hN : zNL T = 8) {r : Int64} (hQ : zRes T (some .long) (some (.long r)) σ) (a0 : Int64) (a2 : Int64)  (h : fX5_grownUp_0 a0 a2  = some r) : Z T σ 0 [(0, .long a0), (2, .long a2)] [] := by
  unfold fX5_grownUp_0 at h
  refine z_lload_n hC 0 rfl rfl dX5_grownUp_0 ?_
  refine z_lstore hC [(4, .long a0), (0, .long a0), (2, .long a2)] (by rw [hN]; decide) rfl dX5_grownUp_1 ?_
  refine z_lconst hC (1 : Int64) (by decide) dX5_grownUp_3 ?_
  refine z_lstore hC [(6, .long (1 : Int64)), (4, .long a0), (0, .long a0), (2, .long a2)] (by rw [hN]; decide) rfl dX5_grownUp_4 ?_
  refine z_sub [(0, .long a0), (2, .long a2), (4, .long a0), (6, .long (1 : Int64))] [2, 3, 1, 0] rfl ?_
  exact (wX5_grownUp_L6 hC hN hQ zFU) _ _ _ _ h
set_option maxRecDepth 100000 in
theorem ctX5_grownUp {l : Launch} {G : zGt} {mk : zSt → zSt} {cl ch : Nat} (hm : zM mk cl ch) {a0 : Int64} {a2 : Int64} {σ : zSt} {r : Int64} (h : fX5_grownUp a0 a2  = some r) : zMet l G mk yX5_grownUp cX5_grownUp 8 (some .long) 0 0 [.long a0, .long a2] σ (some (.long r)) σ := by
  unfold fX5_grownUp at h

  refine zMet.of (plainFor_of_name (by decide +kernel)) hm (Nat.le_of_ble_eq_true rfl) (fun T eL eG eM hN hC hQ => ?_)
  subst eL; subst eG; subst eM
  refine z_sub [(0, .long a0), (2, .long a2)] [0, 1] rfl ?_
  exact wX5_grownUp_0 hC hN hQ _ _  h
noncomputable def fX5_power_56 (v2 : Int64) (v6 : Int64) (t0 : Int64) : Option Int64 := 
    (if (0 : Int64) ≤ v6 then bd1 (fX5_grownUp v6 v2) fun r79_2 => some (fX5_of t0 r79_2)
    else bd1 (fX5_grownDown (-v6) v2) fun r69_3 => nm (-r69_3) fun x82_4 => some (fX5_of t0 x82_4))
noncomputable def fX5_power_110 (v2 : Int64) (v4 : Int64) (v6 : Int64) : Option Int64 := nm (if (if 0 < v6 then v6 else -v6) < (if 0 < v4 then v4 else -v4) then (if 0 < v6 then v6 else -v6) else (if 0 < v4 then v4 else -v4)) fun x120_1 => bd1 (fX5_grownDown x120_1 v2) fun r128_2 => nm (if (if 0 < v6 then v6 else -v6) < (if 0 < v4 then v4 else -v4) then (if 0 < v4 then v4 else -v4) else (if 0 < v6 then v6 else -v6)) fun x141_3 => bd1 (fX5_grownUp x141_3 v2) fun r145_4 => some (fX5_of r128_2 r145_4)
noncomputable def fX5_power_0 (a0 : Int64) (a2 : Int64) : Option Int64 := 
    (if a0 = (4294967296 : Int64) then some (4294967296 : Int64)
    else nm (fX5_lowOf a0) fun x16_2 => nm (fX5_highOf a0) fun x22_3 => 
      (if (a2 &&& (1 : Int64)) = (1 : Int64) then 
        (if (0 : Int64) ≤ x16_2 then bd1 (fX5_grownDown x16_2 a2) fun r53_11 => fX5_power_56 a2 x22_3 r53_11
        else bd1 (fX5_grownUp (-x16_2) a2) fun r43_12 => fX5_power_56 a2 x22_3 (-r43_12))
      else 
        (if (0 : Int64) < x16_2 then fX5_power_110 a2 x16_2 x22_3
        else 
          (if x22_3 < (0 : Int64) then fX5_power_110 a2 x16_2 x22_3
          else bd1 (fX5_grownDown (0 : Int64) a2) fun r128_7 => nm (if (if 0 < x22_3 then x22_3 else -x22_3) < (if 0 < x16_2 then x16_2 else -x16_2) then (if 0 < x16_2 then x16_2 else -x16_2) else (if 0 < x22_3 then x22_3 else -x22_3)) fun x141_8 => bd1 (fX5_grownUp x141_8 a2) fun r145_9 => some (fX5_of r128_7 r145_9)))))
noncomputable def fX5_power (a0 : Int64) (a2 : Int64) : Option Int64 := fX5_power_0 a0 a2
set_option maxRecDepth 100000 in
set_option maxHeartbeats 4000000 in
theorem wX5_power_56 {T : zX} {cl ch : Nat} {σ : zSt} (hC : zOk T cX5_power RX5 1 27 cl ch) (hN : zNL T = 12) {r : Int64} (hQ : zRes T (some .long) (some (.long r)) σ) (v2 : Int64) (v6 : Int64) (t0 : Int64)  (h : fX5_power_56 v2 v6 t0  = some r) : Z T σ 56 [(2, .long v2), (6, .long v6)] [.long t0] := by
  unfold fX5_power_56 at h
  refine z_lstore hC [(8, .long t0), (2, .long v2), (6, .long v6)] (by rw [hN]; decide) rfl dX5_power_56 ?_
  refine z_lload hC 2 rfl dX5_power_58 ?_
  refine z_lconst hC (0 : Int64) (by decide) dX5_power_60 ?_
  refine z_cmp_ge hC 76 (by decide) dX5_power_61 dX5_power_62 (fun q61_1 => ?_) (fun q61_1 => ?_)
  · replace h := z_t q61_1 h
    refine z_lload hC 2 rfl dX5_power_76 ?_
    refine z_lload_n hC 1 rfl rfl dX5_power_78 ?_
    refine z_b1 h (fun r79_2 e_r79_2 h => ?_)
    refine z_cS2r hC (ctX5_grownUp hC.hm e_r79_2) kb_X5_grownUp km_X5_49 ⟨by decide, by decide⟩ (Nat.le_of_ble_eq_true rfl) dX5_power_79 ?_
    refine z_lstore hC [(10, .long r79_2), (8, .long t0), (2, .long v2), (6, .long v6)] (by rw [hN]; decide) rfl dX5_power_82 ?_
    refine z_lload hC 1 rfl dX5_power_84 ?_
    refine z_lload hC 0 rfl dX5_power_86 ?_
    refine z_cS2r hC (ctX5_of hC.hm) kb_X5_of km_X5_30 ⟨by decide, by decide⟩ (Nat.le_of_ble_eq_true rfl) dX5_power_88 ?_
    cases h
    exact z_lret hC hQ dX5_power_91
  · replace h := z_f q61_1 h
    refine z_lload hC 2 rfl dX5_power_65 ?_
    refine z_lneg hC dX5_power_67 ?_
    refine z_lload_n hC 1 rfl rfl dX5_power_68 ?_
    refine z_b1 h (fun r69_3 e_r69_3 h => ?_)
    refine z_cS2r hC (ctX5_grownDown hC.hm e_r69_3) kb_X5_grownDown km_X5_52 ⟨by decide, by decide⟩ (Nat.le_of_ble_eq_true rfl) dX5_power_69 ?_
    refine z_lneg hC dX5_power_72 ?_
    refine z_goto hC 82 (by decide) dX5_power_73 ?_
    refine z_nmL h (fun x82_4 h => ?_)
    refine z_lstore hC [(10, .long x82_4), (8, .long t0), (2, .long v2), (6, .long v6)] (by rw [hN]; decide) rfl dX5_power_82 ?_
    refine z_lload hC 1 rfl dX5_power_84 ?_
    refine z_lload hC 0 rfl dX5_power_86 ?_
    refine z_cS2r hC (ctX5_of hC.hm) kb_X5_of km_X5_30 ⟨by decide, by decide⟩ (Nat.le_of_ble_eq_true rfl) dX5_power_88 ?_
    cases h
    exact z_lret hC hQ dX5_power_91
set_option maxRecDepth 100000 in
set_option maxHeartbeats 4000000 in
theorem wX5_power_110 {T : zX} {cl ch : Nat} {σ : zSt} (hC : zOk T cX5_power RX5 1 27 cl ch) (hN : zNL T = 12) {r : Int64} (hQ : zRes T (some .long) (some (.long r)) σ) (v2 : Int64) (v4 : Int64) (v6 : Int64)  (h : fX5_power_110 v2 v4 v6  = some r) : Z T σ 110 [(2, .long v2), (4, .long v4), (6, .long v6)] [] := by
  unfold fX5_power_110 at h
  refine z_lload hC 1 rfl dX5_power_110 ?_
  refine z_mabsL hC km_X5_55 (Nat.le_of_ble_eq_true rfl) (Nat.le_of_ble_eq_true rfl) dX5_power_112 ?_
  refine z_lload hC 2 rfl dX5_power_115 ?_
  refine z_mabsL hC km_X5_55 (Nat.le_of_ble_eq_true rfl) (Nat.le_of_ble_eq_true rfl) dX5_power_117 ?_
  refine z_mminL hC km_X5_34 (Nat.le_of_ble_eq_true rfl) (Nat.le_of_ble_eq_true rfl) dX5_power_120 ?_
  refine z_nmL h (fun x120_1 h => ?_)
  refine z_lstore hC [(8, .long x120_1), (2, .long v2), (4, .long v4), (6, .long v6)] (by rw [hN]; decide) rfl dX5_power_123 ?_
  refine z_lload hC 0 rfl dX5_power_125 ?_
  refine z_lload_n hC 1 rfl rfl dX5_power_127 ?_
  refine z_b1 h (fun r128_2 e_r128_2 h => ?_)
  refine z_cS2r hC (ctX5_grownDown hC.hm e_r128_2) kb_X5_grownDown km_X5_52 ⟨by decide, by decide⟩ (Nat.le_of_ble_eq_true rfl) dX5_power_128 ?_
  refine z_lload hC 2 rfl dX5_power_131 ?_
  refine z_mabsL hC km_X5_55 (Nat.le_of_ble_eq_true rfl) (Nat.le_of_ble_eq_true rfl) dX5_power_133 ?_
  refine z_lload hC 3 rfl dX5_power_136 ?_
  refine z_mabsL hC km_X5_55 (Nat.le_of_ble_eq_true rfl) (Nat.le_of_ble_eq_true rfl) dX5_power_138 ?_
  refine z_mmaxL hC km_X5_39 (Nat.le_of_ble_eq_true rfl) (Nat.le_of_ble_eq_true rfl) dX5_power_141 ?_
  refine z_nmL h (fun x141_3 h => ?_)
  refine z_lload_n hC 1 rfl rfl dX5_power_144 ?_
  refine z_b1 h (fun r145_4 e_r145_4 h => ?_)
  refine z_cS2r hC (ctX5_grownUp hC.hm e_r145_4) kb_X5_grownUp km_X5_49 ⟨by decide, by decide⟩ (Nat.le_of_ble_eq_true rfl) dX5_power_145 ?_
  refine z_cS2r hC (ctX5_of hC.hm) kb_X5_of km_X5_30 ⟨by decide, by decide⟩ (Nat.le_of_ble_eq_true rfl) dX5_power_148 ?_
  cases h
  exact z_lret hC hQ dX5_power_151
set_option maxRecDepth 100000 in
set_option maxHeartbeats 4000000 in
theorem wX5_power_0 {T : zX} {cl ch : Nat} {σ : zSt} (hC : zOk T cX5_power RX5 1 27 cl ch) (hN : zNL T = 12) {r : Int64} (hQ : zRes T (some .long) (some (.long r)) σ) (a0 : Int64) (a2 : Int64)  (h : fX5_power_0 a0 a2  = some r) : Z T σ 0 [(0, .long a0), (2, .long a2)] [] := by
  unfold fX5_power_0 at h
  refine z_lload_n hC 0 rfl rfl dX5_power_0 ?_
  refine z_ldc2 hC kc_X5_15 dX5_power_1 ?_
  refine z_cmp_ne hC 12 (by decide) dX5_power_4 dX5_power_5 (fun q4_1 => ?_) (fun q4_1 => ?_)
  · replace h := z_f q4_1 h
    refine z_lload_n hC 0 rfl rfl dX5_power_12 ?_
    refine z_cS1r hC (ctX5_lowOf hC.hm) kb_X5_lowOf km_X5_19 ⟨by decide, by decide⟩ (Nat.le_of_ble_eq_true rfl) dX5_power_13 ?_
    refine z_nmL h (fun x16_2 h => ?_)
    refine z_lstore hC [(4, .long x16_2), (0, .long a0), (2, .long a2)] (by rw [hN]; decide) rfl dX5_power_16 ?_
    refine z_lload_n hC 1 rfl rfl dX5_power_18 ?_
    refine z_cS1r hC (ctX5_highOf hC.hm) kb_X5_highOf km_X5_23 ⟨by decide, by decide⟩ (Nat.le_of_ble_eq_true rfl) dX5_power_19 ?_
    refine z_nmL h (fun x22_3 h => ?_)
    refine z_lstore hC [(6, .long x22_3), (4, .long x16_2), (0, .long a0), (2, .long a2)] (by rw [hN]; decide) rfl dX5_power_22 ?_
    refine z_lload_n hC 3 rfl rfl dX5_power_24 ?_
    refine z_lconst hC (1 : Int64) (by decide) dX5_power_25 ?_
    refine z_land hC dX5_power_26 ?_
    refine z_lconst hC (1 : Int64) (by decide) dX5_power_27 ?_
    refine z_cmp_ne hC 92 (by decide) dX5_power_28 dX5_power_29 (fun q28_4 => ?_) (fun q28_4 => ?_)
    · replace h := z_f q28_4 h
      refine z_lload hC 1 rfl dX5_power_92 ?_
      refine z_lconst hC (0 : Int64) (by decide) dX5_power_94 ?_
      refine z_cmp_gt hC 110 (by decide) dX5_power_95 dX5_power_96 (fun q95_5 => ?_) (fun q95_5 => ?_)
      · replace h := z_t q95_5 h
        refine z_sub [(2, .long a2), (4, .long x16_2), (6, .long x22_3)] [3, 1, 0] rfl ?_
        exact (wX5_power_110 hC hN hQ ) _ _ _ h
      · replace h := z_f q95_5 h
        refine z_lload hC 0 rfl dX5_power_99 ?_
        refine z_lconst hC (0 : Int64) (by decide) dX5_power_101 ?_
        refine z_cmp_lt hC 110 (by decide) dX5_power_102 dX5_power_103 (fun q102_6 => ?_) (fun q102_6 => ?_)
        · replace h := z_t q102_6 h
          refine z_sub [(2, .long a2), (4, .long x16_2), (6, .long x22_3)] [3, 1, 0] rfl ?_
          exact (wX5_power_110 hC hN hQ ) _ _ _ h
        · replace h := z_f q102_6 h
          refine z_lconst hC (0 : Int64) (by decide) dX5_power_106 ?_
          refine z_goto hC 123 (by decide) dX5_power_107 ?_
          refine z_lstore hC [(8, .long (0 : Int64)), (6, .long x22_3), (4, .long x16_2), (0, .long a0), (2, .long a2)] (by rw [hN]; decide) rfl dX5_power_123 ?_
          refine z_lload hC 0 rfl dX5_power_125 ?_
          refine z_lload_n hC 4 rfl rfl dX5_power_127 ?_
          refine z_b1 h (fun r128_7 e_r128_7 h => ?_)
          refine z_cS2r hC (ctX5_grownDown hC.hm e_r128_7) kb_X5_grownDown km_X5_52 ⟨by decide, by decide⟩ (Nat.le_of_ble_eq_true rfl) dX5_power_128 ?_
          refine z_lload hC 2 rfl dX5_power_131 ?_
          refine z_mabsL hC km_X5_55 (Nat.le_of_ble_eq_true rfl) (Nat.le_of_ble_eq_true rfl) dX5_power_133 ?_
          refine z_lload hC 1 rfl dX5_power_136 ?_
          refine z_mabsL hC km_X5_55 (Nat.le_of_ble_eq_true rfl) (Nat.le_of_ble_eq_true rfl) dX5_power_138 ?_
          refine z_mmaxL hC km_X5_39 (Nat.le_of_ble_eq_true rfl) (Nat.le_of_ble_eq_true rfl) dX5_power_141 ?_
          refine z_nmL h (fun x141_8 h => ?_)
          refine z_lload_n hC 4 rfl rfl dX5_power_144 ?_
          refine z_b1 h (fun r145_9 e_r145_9 h => ?_)
          refine z_cS2r hC (ctX5_grownUp hC.hm e_r145_9) kb_X5_grownUp km_X5_49 ⟨by decide, by decide⟩ (Nat.le_of_ble_eq_true rfl) dX5_power_145 ?_
          refine z_cS2r hC (ctX5_of hC.hm) kb_X5_of km_X5_30 ⟨by decide, by decide⟩ (Nat.le_of_ble_eq_true rfl) dX5_power_148 ?_
          cases h
          exact z_lret hC hQ dX5_power_151
    · replace h := z_t q28_4 h
      refine z_lload hC 1 rfl dX5_power_32 ?_
      refine z_lconst hC (0 : Int64) (by decide) dX5_power_34 ?_
      refine z_cmp_ge hC 50 (by decide) dX5_power_35 dX5_power_36 (fun q35_10 => ?_) (fun q35_10 => ?_)
      · replace h := z_t q35_10 h
        refine z_lload hC 1 rfl dX5_power_50 ?_
        refine z_lload_n hC 3 rfl rfl dX5_power_52 ?_
        refine z_b1 h (fun r53_11 e_r53_11 h => ?_)
        refine z_cS2r hC (ctX5_grownDown hC.hm e_r53_11) kb_X5_grownDown km_X5_52 ⟨by decide, by decide⟩ (Nat.le_of_ble_eq_true rfl) dX5_power_53 ?_
        refine z_sub [(2, .long a2), (6, .long x22_3)] [3, 0] rfl ?_
        exact (wX5_power_56 hC hN hQ ) _ _ _ h
      · replace h := z_f q35_10 h
        refine z_lload hC 1 rfl dX5_power_39 ?_
        refine z_lneg hC dX5_power_41 ?_
        refine z_lload_n hC 3 rfl rfl dX5_power_42 ?_
        refine z_b1 h (fun r43_12 e_r43_12 h => ?_)
        refine z_cS2r hC (ctX5_grownUp hC.hm e_r43_12) kb_X5_grownUp km_X5_49 ⟨by decide, by decide⟩ (Nat.le_of_ble_eq_true rfl) dX5_power_43 ?_
        refine z_lneg hC dX5_power_46 ?_
        refine z_goto hC 56 (by decide) dX5_power_47 ?_
        refine z_sub [(2, .long a2), (6, .long x22_3)] [3, 0] rfl ?_
        exact (wX5_power_56 hC hN hQ ) _ _ _ h
  · replace h := z_t q4_1 h
    refine z_ldc2 hC kc_X5_15 dX5_power_8 ?_
    cases h
    exact z_lret hC hQ dX5_power_11
set_option maxRecDepth 100000 in
theorem ctX5_power {l : Launch} {G : zGt} {mk : zSt → zSt} {cl ch : Nat} (hm : zM mk cl ch) {a0 : Int64} {a2 : Int64} {σ : zSt} {r : Int64} (h : fX5_power a0 a2  = some r) : zMet l G mk yX5_power cX5_power 12 (some .long) 1 27 [.long a0, .long a2] σ (some (.long r)) σ := by
  unfold fX5_power at h

  refine zMet.of (plainFor_of_name (by decide +kernel)) hm (Nat.le_of_ble_eq_true rfl) (fun T eL eG eM hN hC hQ => ?_)
  subst eL; subst eG; subst eM
  refine z_sub [(0, .long a0), (2, .long a2)] [0, 1] rfl ?_
  exact wX5_power_0 hC hN hQ _ _  h
noncomputable def fX5_rootDown_6 (K6 : Int64 → Int64 → Int32 → Option Int64) (v0 : Int64) (v2 : Int64) (v4 : Int32) : Option Int64 := 
    (if v4 < 0 then some v2
    else nm (v2 ||| (jshlL (1 : Int64) v4)) fun x17_2 => 
      (if v0 < (x17_2 * x17_2) then nm (v4 + (-1 : Int32)) fun x32_4 => K6 v0 v2 x32_4
      else nm (v4 + (-1 : Int32)) fun x32_5 => K6 v0 x17_2 x32_5))
noncomputable def fX5_rootDown_L6 : Nat → Int64 → Int64 → Int32 → Option Int64
  | 0, _, _, _ => none
  | n + 1, v0, v2, v4 => fX5_rootDown_6 (fX5_rootDown_L6 n) v0 v2 v4 
noncomputable def fX5_rootDown_0 (a0 : Int64) : Option Int64 := fX5_rootDown_L6 zFU a0 (0 : Int64) (26 : Int32)
noncomputable def fX5_rootDown (a0 : Int64) : Option Int64 := fX5_rootDown_0 a0
set_option maxRecDepth 100000 in
set_option maxHeartbeats 4000000 in
theorem wX5_rootDown_6 {T : zX} {cl ch : Nat} {σ : zSt} (hC : zOk T cX5_rootDown RX5 0 0 cl ch) (hN : zNL T = 7) {r : Int64} (hQ : zRes T (some .long) (some (.long r)) σ) (K6 : Int64 → Int64 → Int32 → Option Int64) (hK6 : ∀ (v0 : Int64) (v2 : Int64) (v4 : Int32), K6 v0 v2 v4  = some r → Z T σ 6 [(0, .long v0), (2, .long v2), (4, .int v4)] []) (v0 : Int64) (v2 : Int64) (v4 : Int32)  (h : fX5_rootDown_6 K6 v0 v2 v4  = some r) : Z T σ 6 [(0, .long v0), (2, .long v2), (4, .int v4)] [] := by
  unfold fX5_rootDown_6 at h
  refine z_iload hC 2 rfl dX5_rootDown_6 ?_
  refine z_if_lt hC 38 (by decide) dX5_rootDown_8 (fun q8_1 => ?_) (fun q8_1 => ?_)
  · replace h := z_t q8_1 h
    refine z_lload_n hC 1 rfl rfl dX5_rootDown_38 ?_
    cases h
    exact z_lret hC hQ dX5_rootDown_39
  · replace h := z_f q8_1 h
    refine z_lload_n hC 1 rfl rfl dX5_rootDown_11 ?_
    refine z_lconst hC (1 : Int64) (by decide) dX5_rootDown_12 ?_
    refine z_iload hC 2 rfl dX5_rootDown_13 ?_
    refine z_lshl hC dX5_rootDown_15 ?_
    refine z_lor hC dX5_rootDown_16 ?_
    refine z_nmL h (fun x17_2 h => ?_)
    refine z_lstore hC [(5, .long x17_2), (0, .long v0), (2, .long v2), (4, .int v4)] (by rw [hN]; decide) rfl dX5_rootDown_17 ?_
    refine z_lload hC 0 rfl dX5_rootDown_19 ?_
    refine z_lload hC 0 rfl dX5_rootDown_21 ?_
    refine z_lmul hC dX5_rootDown_23 ?_
    refine z_lload_n hC 1 rfl rfl dX5_rootDown_24 ?_
    refine z_cmp_gt hC 32 (by decide) dX5_rootDown_25 dX5_rootDown_26 (fun q25_3 => ?_) (fun q25_3 => ?_)
    · replace h := z_t q25_3 h
      refine z_nmE h (fun x32_4 e_x32_4 h => ?_)
      refine z_iinc hC x32_4 [(4, .int x32_4), (5, .long x17_2), (0, .long v0), (2, .long v2)] 3 rfl (by rw [e_x32_4]; rfl) (by rw [hN]; decide) rfl dX5_rootDown_32 ?_
      refine z_goto hC 6 (by decide) dX5_rootDown_35 ?_
      refine z_sub [(0, .long v0), (2, .long v2), (4, .int x32_4)] [2, 3, 0] rfl ?_
      exact hK6 _ _ _ h
    · replace h := z_f q25_3 h
      refine z_lload hC 0 rfl dX5_rootDown_29 ?_
      refine z_lstore_n hC [(2, .long x17_2), (5, .long x17_2), (0, .long v0), (4, .int v4)] rfl (by rw [hN]; decide) rfl dX5_rootDown_31 ?_
      refine z_nmE h (fun x32_5 e_x32_5 h => ?_)
      refine z_iinc hC x32_5 [(4, .int x32_5), (2, .long x17_2), (5, .long x17_2), (0, .long v0)] 3 rfl (by rw [e_x32_5]; rfl) (by rw [hN]; decide) rfl dX5_rootDown_32 ?_
      refine z_goto hC 6 (by decide) dX5_rootDown_35 ?_
      refine z_sub [(0, .long v0), (2, .long x17_2), (4, .int x32_5)] [3, 1, 0] rfl ?_
      exact hK6 _ _ _ h
theorem wX5_rootDown_L6 {T : zX} {cl ch : Nat} {σ : zSt} (hC : zOk T cX5_rootDown RX5 0 0 cl ch) (hN : zNL T = 7) {r : Int64} (hQ : zRes T (some .long) (some (.long r)) σ) (n : Nat) : ∀ (v0 : Int64) (v2 : Int64) (v4 : Int32), fX5_rootDown_L6 n v0 v2 v4  = some r → Z T σ 6 [(0, .long v0), (2, .long v2), (4, .int v4)] [] := by
  induction n with
  | zero => intro v0 v2 v4 h; cases h
  | succ n ih => intro v0 v2 v4 h; exact wX5_rootDown_6 hC hN hQ (fX5_rootDown_L6 n) ih v0 v2 v4 h
set_option maxRecDepth 100000 in
set_option maxHeartbeats 4000000 in
theorem wX5_rootDown_0 {T : zX} {cl ch : Nat} {σ : zSt} (hC : zOk T cX5_rootDown RX5 0 0 cl ch) (hN : zNL T = 7) {r : Int64} (hQ : zRes T (some .long) (some (.long r)) σ) (a0 : Int64)  (h : fX5_rootDown_0 a0  = some r) : Z T σ 0 [(0, .long a0)] [] := by
  unfold fX5_rootDown_0 at h
  refine z_lconst hC (0 : Int64) (by decide) dX5_rootDown_0 ?_
  refine z_lstore_n hC [(2, .long (0 : Int64)), (0, .long a0)] rfl (by rw [hN]; decide) rfl dX5_rootDown_1 ?_
  refine z_bipush hC (26 : Int32) (by decide) dX5_rootDown_2 ?_
  refine z_istore hC [(4, .int (26 : Int32)), (2, .long (0 : Int64)), (0, .long a0)] (by rw [hN]; decide) rfl dX5_rootDown_4 ?_
  refine z_sub [(0, .long a0), (2, .long (0 : Int64)), (4, .int (26 : Int32))] [2, 1, 0] rfl ?_
  exact (wX5_rootDown_L6 hC hN hQ zFU) _ _ _ h
set_option maxRecDepth 100000 in
theorem ctX5_rootDown {l : Launch} {G : zGt} {mk : zSt → zSt} {cl ch : Nat} (hm : zM mk cl ch) {a0 : Int64} {σ : zSt} {r : Int64} (h : fX5_rootDown a0  = some r) : zMet l G mk yX5_rootDown cX5_rootDown 7 (some .long) 0 0 [.long a0] σ (some (.long r)) σ := by
  unfold fX5_rootDown at h

  refine zMet.of (plainFor_of_name (by decide +kernel)) hm (Nat.le_of_ble_eq_true rfl) (fun T eL eG eM hN hC hQ => ?_)
  subst eL; subst eG; subst eM
  refine z_sub [(0, .long a0)] [0] rfl ?_
  exact wX5_rootDown_0 hC hN hQ _  h
noncomputable def fX5_root_0 (a0 : Int64) : Option Int64 := 
    (if a0 = (4294967296 : Int64) then some (4294967296 : Int64)
    else 
      (if (0 : Int64) ≤ (fX5_lowOf a0) then nm (jshlL (fX5_highOf a0) (20 : Int32)) fun x28_3 => bd1 (fX5_rootDown x28_3) fun r30_4 => bd1 (fX5_rootDown (jshlL (fX5_lowOf a0) (20 : Int32))) fun r42_5 => 
        (if x28_3 ≤ (r30_4 * r30_4) then some (fX5_of r42_5 r30_4)
        else some (fX5_of r42_5 (r30_4 + (1 : Int64))))
      else some (4294967296 : Int64)))
noncomputable def fX5_root (a0 : Int64) : Option Int64 := fX5_root_0 a0
set_option maxRecDepth 100000 in
set_option maxHeartbeats 4000000 in
theorem wX5_root_0 {T : zX} {cl ch : Nat} {σ : zSt} (hC : zOk T cX5_root RX5 1 26 cl ch) (hN : zNL T = 6) {r : Int64} (hQ : zRes T (some .long) (some (.long r)) σ) (a0 : Int64)  (h : fX5_root_0 a0  = some r) : Z T σ 0 [(0, .long a0)] [] := by
  unfold fX5_root_0 at h
  refine z_lload_n hC 0 rfl rfl dX5_root_0 ?_
  refine z_ldc2 hC kc_X5_15 dX5_root_1 ?_
  refine z_cmp_eq hC 17 (by decide) dX5_root_4 dX5_root_5 (fun q4_1 => ?_) (fun q4_1 => ?_)
  · replace h := z_t q4_1 h
    refine z_ldc2 hC kc_X5_15 dX5_root_17 ?_
    cases h
    exact z_lret hC hQ dX5_root_20
  · replace h := z_f q4_1 h
    refine z_lload_n hC 0 rfl rfl dX5_root_8 ?_
    refine z_cS1r hC (ctX5_lowOf hC.hm) kb_X5_lowOf km_X5_19 ⟨by decide, by decide⟩ (Nat.le_of_ble_eq_true rfl) dX5_root_9 ?_
    refine z_lconst hC (0 : Int64) (by decide) dX5_root_12 ?_
    refine z_cmp_ge hC 21 (by decide) dX5_root_13 dX5_root_14 (fun q13_2 => ?_) (fun q13_2 => ?_)
    · replace h := z_t q13_2 h
      refine z_lload_n hC 0 rfl rfl dX5_root_21 ?_
      refine z_cS1r hC (ctX5_highOf hC.hm) kb_X5_highOf km_X5_23 ⟨by decide, by decide⟩ (Nat.le_of_ble_eq_true rfl) dX5_root_22 ?_
      refine z_bipush hC (20 : Int32) (by decide) dX5_root_25 ?_
      refine z_lshl hC dX5_root_27 ?_
      refine z_nmL h (fun x28_3 h => ?_)
      refine z_lstore_n hC [(2, .long x28_3), (0, .long a0)] rfl (by rw [hN]; decide) rfl dX5_root_28 ?_
      refine z_lload_n hC 0 rfl rfl dX5_root_29 ?_
      refine z_b1 h (fun r30_4 e_r30_4 h => ?_)
      refine z_cS1r hC (ctX5_rootDown hC.hm e_r30_4) kb_X5_rootDown km_X5_67 ⟨by decide, by decide⟩ (Nat.le_of_ble_eq_true rfl) dX5_root_30 ?_
      refine z_lstore hC [(4, .long r30_4), (2, .long x28_3), (0, .long a0)] (by rw [hN]; decide) rfl dX5_root_33 ?_
      refine z_lload_n hC 2 rfl rfl dX5_root_35 ?_
      refine z_cS1r hC (ctX5_lowOf hC.hm) kb_X5_lowOf km_X5_19 ⟨by decide, by decide⟩ (Nat.le_of_ble_eq_true rfl) dX5_root_36 ?_
      refine z_bipush hC (20 : Int32) (by decide) dX5_root_39 ?_
      refine z_lshl hC dX5_root_41 ?_
      refine z_b1 h (fun r42_5 e_r42_5 h => ?_)
      refine z_cS1r hC (ctX5_rootDown hC.hm e_r42_5) kb_X5_rootDown km_X5_67 ⟨by decide, by decide⟩ (Nat.le_of_ble_eq_true rfl) dX5_root_42 ?_
      refine z_lload hC 0 rfl dX5_root_45 ?_
      refine z_lload hC 0 rfl dX5_root_47 ?_
      refine z_lmul hC dX5_root_49 ?_
      refine z_lload_n hC 1 rfl rfl dX5_root_50 ?_
      refine z_cmp_ge hC 62 (by decide) dX5_root_51 dX5_root_52 (fun q51_6 => ?_) (fun q51_6 => ?_)
      · replace h := z_t q51_6 h
        refine z_lload hC 0 rfl dX5_root_62 ?_
        refine z_cS2r hC (ctX5_of hC.hm) kb_X5_of km_X5_30 ⟨by decide, by decide⟩ (Nat.le_of_ble_eq_true rfl) dX5_root_64 ?_
        cases h
        exact z_lret hC hQ dX5_root_67
      · replace h := z_f q51_6 h
        refine z_lload hC 0 rfl dX5_root_55 ?_
        refine z_lconst hC (1 : Int64) (by decide) dX5_root_57 ?_
        refine z_ladd hC dX5_root_58 ?_
        refine z_goto hC 64 (by decide) dX5_root_59 ?_
        refine z_cS2r hC (ctX5_of hC.hm) kb_X5_of km_X5_30 ⟨by decide, by decide⟩ (Nat.le_of_ble_eq_true rfl) dX5_root_64 ?_
        cases h
        exact z_lret hC hQ dX5_root_67
    · replace h := z_f q13_2 h
      refine z_ldc2 hC kc_X5_15 dX5_root_17 ?_
      cases h
      exact z_lret hC hQ dX5_root_20
set_option maxRecDepth 100000 in
theorem ctX5_root {l : Launch} {G : zGt} {mk : zSt → zSt} {cl ch : Nat} (hm : zM mk cl ch) {a0 : Int64} {σ : zSt} {r : Int64} (h : fX5_root a0  = some r) : zMet l G mk yX5_root cX5_root 6 (some .long) 1 26 [.long a0] σ (some (.long r)) σ := by
  unfold fX5_root at h

  refine zMet.of (plainFor_of_name (by decide +kernel)) hm (Nat.le_of_ble_eq_true rfl) (fun T eL eG eM hN hC hQ => ?_)
  subst eL; subst eG; subst eM
  refine z_sub [(0, .long a0)] [0] rfl ?_
  exact wX5_root_0 hC hN hQ _  h
noncomputable def fX5_size_0 (a0 : Int64) : Int64 := 
    (if a0 = (4294967296 : Int64) then a0
    else 
      (if (fX5_lowOf a0) < (0 : Int64) then 
        (if (0 : Int64) < (fX5_highOf a0) then nm (if (fX5_highOf a0) < (-(fX5_lowOf a0)) then (-(fX5_lowOf a0)) else (fX5_highOf a0)) fun x45_4 => (fX5_of (0 : Int64) x45_4)
        else (fX5_turned a0))
      else a0))
noncomputable def fX5_size (a0 : Int64) : Int64 := fX5_size_0 a0
set_option maxRecDepth 100000 in
set_option maxHeartbeats 4000000 in
theorem wX5_size_0 {T : zX} {cl ch : Nat} {σ : zSt} (hC : zOk T cX5_size RX5 2 44 cl ch) (hN : zNL T = 2) {r : Int64} (hQ : zRes T (some .long) (some (.long r)) σ) (a0 : Int64)  (h : fX5_size_0 a0  = r) : Z T σ 0 [(0, .long a0)] [] := by
  unfold fX5_size_0 at h
  refine z_lload_n hC 0 rfl rfl dX5_size_0 ?_
  refine z_ldc2 hC kc_X5_15 dX5_size_1 ?_
  refine z_cmp_eq hC 17 (by decide) dX5_size_4 dX5_size_5 (fun q4_1 => ?_) (fun q4_1 => ?_)
  · replace h := z_t q4_1 h
    refine z_lload_n hC 0 rfl rfl dX5_size_17 ?_
    subst h
    exact z_lret hC hQ dX5_size_18
  · replace h := z_f q4_1 h
    refine z_lload_n hC 0 rfl rfl dX5_size_8 ?_
    refine z_cS1r hC (ctX5_lowOf hC.hm) kb_X5_lowOf km_X5_19 ⟨by decide, by decide⟩ (Nat.le_of_ble_eq_true rfl) dX5_size_9 ?_
    refine z_lconst hC (0 : Int64) (by decide) dX5_size_12 ?_
    refine z_cmp_lt hC 19 (by decide) dX5_size_13 dX5_size_14 (fun q13_2 => ?_) (fun q13_2 => ?_)
    · replace h := z_t q13_2 h
      refine z_lload_n hC 0 rfl rfl dX5_size_19 ?_
      refine z_cS1r hC (ctX5_highOf hC.hm) kb_X5_highOf km_X5_23 ⟨by decide, by decide⟩ (Nat.le_of_ble_eq_true rfl) dX5_size_20 ?_
      refine z_lconst hC (0 : Int64) (by decide) dX5_size_23 ?_
      refine z_cmp_gt hC 35 (by decide) dX5_size_24 dX5_size_25 (fun q24_3 => ?_) (fun q24_3 => ?_)
      · replace h := z_t q24_3 h
        refine z_lconst hC (0 : Int64) (by decide) dX5_size_35 ?_
        refine z_lload_n hC 0 rfl rfl dX5_size_36 ?_
        refine z_cS1r hC (ctX5_lowOf hC.hm) kb_X5_lowOf km_X5_19 ⟨by decide, by decide⟩ (Nat.le_of_ble_eq_true rfl) dX5_size_37 ?_
        refine z_lneg hC dX5_size_40 ?_
        refine z_lload_n hC 0 rfl rfl dX5_size_41 ?_
        refine z_cS1r hC (ctX5_highOf hC.hm) kb_X5_highOf km_X5_23 ⟨by decide, by decide⟩ (Nat.le_of_ble_eq_true rfl) dX5_size_42 ?_
        refine z_mmaxL hC km_X5_39 (Nat.le_of_ble_eq_true rfl) (Nat.le_of_ble_eq_true rfl) dX5_size_45 ?_
        refine z_nmL h (fun x45_4 h => ?_)
        refine z_cS2r hC (ctX5_of hC.hm) kb_X5_of km_X5_30 ⟨by decide, by decide⟩ (Nat.le_of_ble_eq_true rfl) dX5_size_48 ?_
        subst h
        exact z_lret hC hQ dX5_size_51
      · replace h := z_f q24_3 h
        refine z_lload_n hC 0 rfl rfl dX5_size_28 ?_
        refine z_cS1r hC (ctX5_turned hC.hm) kb_X5_turned km_X5_64 ⟨by decide, by decide⟩ (Nat.le_of_ble_eq_true rfl) dX5_size_29 ?_
        refine z_goto hC 51 (by decide) dX5_size_32 ?_
        subst h
        exact z_lret hC hQ dX5_size_51
    · replace h := z_f q13_2 h
      refine z_lload_n hC 0 rfl rfl dX5_size_17 ?_
      subst h
      exact z_lret hC hQ dX5_size_18
set_option maxRecDepth 100000 in
theorem ctX5_size {l : Launch} {G : zGt} {mk : zSt → zSt} {cl ch : Nat} (hm : zM mk cl ch) {a0 : Int64} {σ : zSt} : zMet l G mk yX5_size cX5_size 2 (some .long) 2 44 [.long a0] σ (some (.long (fX5_size a0 ))) σ := by

  refine zMet.of (plainFor_of_name (by decide +kernel)) hm (Nat.le_of_ble_eq_true rfl) (fun T eL eG eM hN hC hQ => ?_)
  subst eL; subst eG; subst eM
  refine z_sub [(0, .long a0)] [0] rfl ?_
  exact wX5_size_0 hC hN hQ _  rfl
noncomputable def fX5_isHole_0 (a0 : Int64) (a2 : Int64) : Int32 := 
    (if a0 = (4294967296 : Int64) then (1 : Int32)
    else 
      (if a2 = (4294967296 : Int64) then (1 : Int32)
      else (0 : Int32)))
noncomputable def fX5_isHole (a0 : Int64) (a2 : Int64) : Int32 := fX5_isHole_0 a0 a2
set_option maxRecDepth 100000 in
set_option maxHeartbeats 4000000 in
theorem wX5_isHole_0 {T : zX} {cl ch : Nat} {σ : zSt} (hC : zOk T cX5_isHole RX5 0 0 cl ch) (hN : zNL T = 4) {r : Int32} (hQ : zRes T (some .boolean) (some (.int r)) σ) (a0 : Int64) (a2 : Int64)  (h : fX5_isHole_0 a0 a2  = r) : Z T σ 0 [(0, .long a0), (2, .long a2)] [] := by
  unfold fX5_isHole_0 at h
  refine z_lload_n hC 0 rfl rfl dX5_isHole_0 ?_
  refine z_ldc2 hC kc_X5_15 dX5_isHole_1 ?_
  refine z_cmp_eq hC 16 (by decide) dX5_isHole_4 dX5_isHole_5 (fun q4_1 => ?_) (fun q4_1 => ?_)
  · replace h := z_t q4_1 h
    refine z_iconst hC (1 : Int32) (by decide) dX5_isHole_16 ?_
    refine z_goto hC 21 (by decide) dX5_isHole_17 ?_
    subst h
    exact z_zret hC hQ dX5_isHole_21 (by decide)
  · replace h := z_f q4_1 h
    refine z_lload_n hC 1 rfl rfl dX5_isHole_8 ?_
    refine z_ldc2 hC kc_X5_15 dX5_isHole_9 ?_
    refine z_cmp_ne hC 20 (by decide) dX5_isHole_12 dX5_isHole_13 (fun q12_2 => ?_) (fun q12_2 => ?_)
    · replace h := z_f q12_2 h
      refine z_iconst hC (0 : Int32) (by decide) dX5_isHole_20 ?_
      subst h
      exact z_zret hC hQ dX5_isHole_21 (by decide)
    · replace h := z_t q12_2 h
      refine z_iconst hC (1 : Int32) (by decide) dX5_isHole_16 ?_
      refine z_goto hC 21 (by decide) dX5_isHole_17 ?_
      subst h
      exact z_zret hC hQ dX5_isHole_21 (by decide)
set_option maxRecDepth 100000 in
theorem ctX5_isHole {l : Launch} {G : zGt} {mk : zSt → zSt} {cl ch : Nat} (hm : zM mk cl ch) {a0 : Int64} {a2 : Int64} {σ : zSt} : zMet l G mk yX5_isHole cX5_isHole 4 (some .boolean) 0 0 [.long a0, .long a2] σ (some (.int (fX5_isHole a0 a2 ))) σ := by

  refine zMet.of (plainFor_of_name (by decide +kernel)) hm (Nat.le_of_ble_eq_true rfl) (fun T eL eG eM hN hC hQ => ?_)
  subst eL; subst eG; subst eM
  refine z_sub [(0, .long a0), (2, .long a2)] [0, 1] rfl ?_
  exact wX5_isHole_0 hC hN hQ _ _  rfl
noncomputable def fX5_lesser_0 (a0 : Int64) (a2 : Int64) : Int64 := 
    (if (fX5_isHole a0 a2) = 0 then nm (if (fX5_lowOf a2) < (fX5_lowOf a0) then (fX5_lowOf a2) else (fX5_lowOf a0)) fun x22_2 => nm (if (fX5_highOf a2) < (fX5_highOf a0) then (fX5_highOf a2) else (fX5_highOf a0)) fun x33_3 => (fX5_of x22_2 x33_3)
    else (4294967296 : Int64))
noncomputable def fX5_lesser (a0 : Int64) (a2 : Int64) : Int64 := fX5_lesser_0 a0 a2
set_option maxRecDepth 100000 in
set_option maxHeartbeats 4000000 in
theorem wX5_lesser_0 {T : zX} {cl ch : Nat} {σ : zSt} (hC : zOk T cX5_lesser RX5 1 23 cl ch) (hN : zNL T = 4) {r : Int64} (hQ : zRes T (some .long) (some (.long r)) σ) (a0 : Int64) (a2 : Int64)  (h : fX5_lesser_0 a0 a2  = r) : Z T σ 0 [(0, .long a0), (2, .long a2)] [] := by
  unfold fX5_lesser_0 at h
  refine z_lload_n hC 0 rfl rfl dX5_lesser_0 ?_
  refine z_lload_n hC 1 rfl rfl dX5_lesser_1 ?_
  refine z_cS2r hC (ctX5_isHole hC.hm) kb_X5_isHole km_X5_26 ⟨by decide, by decide⟩ (Nat.le_of_ble_eq_true rfl) dX5_lesser_2 ?_
  refine z_if_eq hC 14 (by decide) dX5_lesser_5 (fun q5_1 => ?_) (fun q5_1 => ?_)
  · replace h := z_t q5_1 h
    refine z_lload_n hC 0 rfl rfl dX5_lesser_14 ?_
    refine z_cS1r hC (ctX5_lowOf hC.hm) kb_X5_lowOf km_X5_19 ⟨by decide, by decide⟩ (Nat.le_of_ble_eq_true rfl) dX5_lesser_15 ?_
    refine z_lload_n hC 1 rfl rfl dX5_lesser_18 ?_
    refine z_cS1r hC (ctX5_lowOf hC.hm) kb_X5_lowOf km_X5_19 ⟨by decide, by decide⟩ (Nat.le_of_ble_eq_true rfl) dX5_lesser_19 ?_
    refine z_mminL hC km_X5_34 (Nat.le_of_ble_eq_true rfl) (Nat.le_of_ble_eq_true rfl) dX5_lesser_22 ?_
    refine z_nmL h (fun x22_2 h => ?_)
    refine z_lload_n hC 0 rfl rfl dX5_lesser_25 ?_
    refine z_cS1r hC (ctX5_highOf hC.hm) kb_X5_highOf km_X5_23 ⟨by decide, by decide⟩ (Nat.le_of_ble_eq_true rfl) dX5_lesser_26 ?_
    refine z_lload_n hC 1 rfl rfl dX5_lesser_29 ?_
    refine z_cS1r hC (ctX5_highOf hC.hm) kb_X5_highOf km_X5_23 ⟨by decide, by decide⟩ (Nat.le_of_ble_eq_true rfl) dX5_lesser_30 ?_
    refine z_mminL hC km_X5_34 (Nat.le_of_ble_eq_true rfl) (Nat.le_of_ble_eq_true rfl) dX5_lesser_33 ?_
    refine z_nmL h (fun x33_3 h => ?_)
    refine z_cS2r hC (ctX5_of hC.hm) kb_X5_of km_X5_30 ⟨by decide, by decide⟩ (Nat.le_of_ble_eq_true rfl) dX5_lesser_36 ?_
    subst h
    exact z_lret hC hQ dX5_lesser_39
  · replace h := z_f q5_1 h
    refine z_ldc2 hC kc_X5_15 dX5_lesser_8 ?_
    refine z_goto hC 39 (by decide) dX5_lesser_11 ?_
    subst h
    exact z_lret hC hQ dX5_lesser_39
set_option maxRecDepth 100000 in
theorem ctX5_lesser {l : Launch} {G : zGt} {mk : zSt → zSt} {cl ch : Nat} (hm : zM mk cl ch) {a0 : Int64} {a2 : Int64} {σ : zSt} : zMet l G mk yX5_lesser cX5_lesser 4 (some .long) 1 23 [.long a0, .long a2] σ (some (.long (fX5_lesser a0 a2 ))) σ := by

  refine zMet.of (plainFor_of_name (by decide +kernel)) hm (Nat.le_of_ble_eq_true rfl) (fun T eL eG eM hN hC hQ => ?_)
  subst eL; subst eG; subst eM
  refine z_sub [(0, .long a0), (2, .long a2)] [0, 1] rfl ?_
  exact wX5_lesser_0 hC hN hQ _ _  rfl
noncomputable def fX5_greater_0 (a0 : Int64) (a2 : Int64) : Int64 := 
    (if (fX5_isHole a0 a2) = 0 then nm (if (fX5_lowOf a2) < (fX5_lowOf a0) then (fX5_lowOf a0) else (fX5_lowOf a2)) fun x22_2 => nm (if (fX5_highOf a2) < (fX5_highOf a0) then (fX5_highOf a0) else (fX5_highOf a2)) fun x33_3 => (fX5_of x22_2 x33_3)
    else (4294967296 : Int64))
noncomputable def fX5_greater (a0 : Int64) (a2 : Int64) : Int64 := fX5_greater_0 a0 a2
set_option maxRecDepth 100000 in
set_option maxHeartbeats 4000000 in
theorem wX5_greater_0 {T : zX} {cl ch : Nat} {σ : zSt} (hC : zOk T cX5_greater RX5 1 23 cl ch) (hN : zNL T = 4) {r : Int64} (hQ : zRes T (some .long) (some (.long r)) σ) (a0 : Int64) (a2 : Int64)  (h : fX5_greater_0 a0 a2  = r) : Z T σ 0 [(0, .long a0), (2, .long a2)] [] := by
  unfold fX5_greater_0 at h
  refine z_lload_n hC 0 rfl rfl dX5_greater_0 ?_
  refine z_lload_n hC 1 rfl rfl dX5_greater_1 ?_
  refine z_cS2r hC (ctX5_isHole hC.hm) kb_X5_isHole km_X5_26 ⟨by decide, by decide⟩ (Nat.le_of_ble_eq_true rfl) dX5_greater_2 ?_
  refine z_if_eq hC 14 (by decide) dX5_greater_5 (fun q5_1 => ?_) (fun q5_1 => ?_)
  · replace h := z_t q5_1 h
    refine z_lload_n hC 0 rfl rfl dX5_greater_14 ?_
    refine z_cS1r hC (ctX5_lowOf hC.hm) kb_X5_lowOf km_X5_19 ⟨by decide, by decide⟩ (Nat.le_of_ble_eq_true rfl) dX5_greater_15 ?_
    refine z_lload_n hC 1 rfl rfl dX5_greater_18 ?_
    refine z_cS1r hC (ctX5_lowOf hC.hm) kb_X5_lowOf km_X5_19 ⟨by decide, by decide⟩ (Nat.le_of_ble_eq_true rfl) dX5_greater_19 ?_
    refine z_mmaxL hC km_X5_39 (Nat.le_of_ble_eq_true rfl) (Nat.le_of_ble_eq_true rfl) dX5_greater_22 ?_
    refine z_nmL h (fun x22_2 h => ?_)
    refine z_lload_n hC 0 rfl rfl dX5_greater_25 ?_
    refine z_cS1r hC (ctX5_highOf hC.hm) kb_X5_highOf km_X5_23 ⟨by decide, by decide⟩ (Nat.le_of_ble_eq_true rfl) dX5_greater_26 ?_
    refine z_lload_n hC 1 rfl rfl dX5_greater_29 ?_
    refine z_cS1r hC (ctX5_highOf hC.hm) kb_X5_highOf km_X5_23 ⟨by decide, by decide⟩ (Nat.le_of_ble_eq_true rfl) dX5_greater_30 ?_
    refine z_mmaxL hC km_X5_39 (Nat.le_of_ble_eq_true rfl) (Nat.le_of_ble_eq_true rfl) dX5_greater_33 ?_
    refine z_nmL h (fun x33_3 h => ?_)
    refine z_cS2r hC (ctX5_of hC.hm) kb_X5_of km_X5_30 ⟨by decide, by decide⟩ (Nat.le_of_ble_eq_true rfl) dX5_greater_36 ?_
    subst h
    exact z_lret hC hQ dX5_greater_39
  · replace h := z_f q5_1 h
    refine z_ldc2 hC kc_X5_15 dX5_greater_8 ?_
    refine z_goto hC 39 (by decide) dX5_greater_11 ?_
    subst h
    exact z_lret hC hQ dX5_greater_39
set_option maxRecDepth 100000 in
theorem ctX5_greater {l : Launch} {G : zGt} {mk : zSt → zSt} {cl ch : Nat} (hm : zM mk cl ch) {a0 : Int64} {a2 : Int64} {σ : zSt} : zMet l G mk yX5_greater cX5_greater 4 (some .long) 1 23 [.long a0, .long a2] σ (some (.long (fX5_greater a0 a2 ))) σ := by

  refine zMet.of (plainFor_of_name (by decide +kernel)) hm (Nat.le_of_ble_eq_true rfl) (fun T eL eG eM hN hC hQ => ?_)
  subst eL; subst eG; subst eM
  refine z_sub [(0, .long a0), (2, .long a2)] [0, 1] rfl ?_
  exact wX5_greater_0 hC hN hQ _ _  rfl
noncomputable def fX5_plus_0 (a0 : Int64) (a2 : Int64) : Int64 := 
    (if (fX5_isHole a0 a2) = 0 then nm (fX5_of ((fX5_lowOf a0) + (fX5_lowOf a2)) ((fX5_highOf a0) + (fX5_highOf a2))) fun x32_2 => x32_2
    else (4294967296 : Int64))
noncomputable def fX5_plus (a0 : Int64) (a2 : Int64) : Int64 := fX5_plus_0 a0 a2
set_option maxRecDepth 100000 in
set_option maxHeartbeats 4000000 in
theorem wX5_plus_0 {T : zX} {cl ch : Nat} {σ : zSt} (hC : zOk T cX5_plus RX5 1 23 cl ch) (hN : zNL T = 4) {r : Int64} (hQ : zRes T (some .long) (some (.long r)) σ) (a0 : Int64) (a2 : Int64)  (h : fX5_plus_0 a0 a2  = r) : Z T σ 0 [(0, .long a0), (2, .long a2)] [] := by
  unfold fX5_plus_0 at h
  refine z_lload_n hC 0 rfl rfl dX5_plus_0 ?_
  refine z_lload_n hC 1 rfl rfl dX5_plus_1 ?_
  refine z_cS2r hC (ctX5_isHole hC.hm) kb_X5_isHole km_X5_26 ⟨by decide, by decide⟩ (Nat.le_of_ble_eq_true rfl) dX5_plus_2 ?_
  refine z_if_eq hC 14 (by decide) dX5_plus_5 (fun q5_1 => ?_) (fun q5_1 => ?_)
  · replace h := z_t q5_1 h
    refine z_lload_n hC 0 rfl rfl dX5_plus_14 ?_
    refine z_cS1r hC (ctX5_lowOf hC.hm) kb_X5_lowOf km_X5_19 ⟨by decide, by decide⟩ (Nat.le_of_ble_eq_true rfl) dX5_plus_15 ?_
    refine z_lload_n hC 1 rfl rfl dX5_plus_18 ?_
    refine z_cS1r hC (ctX5_lowOf hC.hm) kb_X5_lowOf km_X5_19 ⟨by decide, by decide⟩ (Nat.le_of_ble_eq_true rfl) dX5_plus_19 ?_
    refine z_ladd hC dX5_plus_22 ?_
    refine z_lload_n hC 0 rfl rfl dX5_plus_23 ?_
    refine z_cS1r hC (ctX5_highOf hC.hm) kb_X5_highOf km_X5_23 ⟨by decide, by decide⟩ (Nat.le_of_ble_eq_true rfl) dX5_plus_24 ?_
    refine z_lload_n hC 1 rfl rfl dX5_plus_27 ?_
    refine z_cS1r hC (ctX5_highOf hC.hm) kb_X5_highOf km_X5_23 ⟨by decide, by decide⟩ (Nat.le_of_ble_eq_true rfl) dX5_plus_28 ?_
    refine z_ladd hC dX5_plus_31 ?_
    refine z_cS2r hC (ctX5_of hC.hm) kb_X5_of km_X5_30 ⟨by decide, by decide⟩ (Nat.le_of_ble_eq_true rfl) dX5_plus_32 ?_
    refine z_nmL h (fun x32_2 h => ?_)
    subst h
    exact z_lret hC hQ dX5_plus_35
  · replace h := z_f q5_1 h
    refine z_ldc2 hC kc_X5_15 dX5_plus_8 ?_
    refine z_goto hC 35 (by decide) dX5_plus_11 ?_
    subst h
    exact z_lret hC hQ dX5_plus_35
set_option maxRecDepth 100000 in
theorem ctX5_plus {l : Launch} {G : zGt} {mk : zSt → zSt} {cl ch : Nat} (hm : zM mk cl ch) {a0 : Int64} {a2 : Int64} {σ : zSt} : zMet l G mk yX5_plus cX5_plus 4 (some .long) 1 23 [.long a0, .long a2] σ (some (.long (fX5_plus a0 a2 ))) σ := by

  refine zMet.of (plainFor_of_name (by decide +kernel)) hm (Nat.le_of_ble_eq_true rfl) (fun T eL eG eM hN hC hQ => ?_)
  subst eL; subst eG; subst eM
  refine z_sub [(0, .long a0), (2, .long a2)] [0, 1] rfl ?_
  exact wX5_plus_0 hC hN hQ _ _  rfl
noncomputable def fX5_minus_0 (a0 : Int64) (a2 : Int64) : Int64 := 
    (if (fX5_isHole a0 a2) = 0 then nm (fX5_of ((fX5_lowOf a0) - (fX5_highOf a2)) ((fX5_highOf a0) - (fX5_lowOf a2))) fun x32_2 => x32_2
    else (4294967296 : Int64))
noncomputable def fX5_minus (a0 : Int64) (a2 : Int64) : Int64 := fX5_minus_0 a0 a2
set_option maxRecDepth 100000 in
set_option maxHeartbeats 4000000 in
theorem wX5_minus_0 {T : zX} {cl ch : Nat} {σ : zSt} (hC : zOk T cX5_minus RX5 1 23 cl ch) (hN : zNL T = 4) {r : Int64} (hQ : zRes T (some .long) (some (.long r)) σ) (a0 : Int64) (a2 : Int64)  (h : fX5_minus_0 a0 a2  = r) : Z T σ 0 [(0, .long a0), (2, .long a2)] [] := by
  unfold fX5_minus_0 at h
  refine z_lload_n hC 0 rfl rfl dX5_minus_0 ?_
  refine z_lload_n hC 1 rfl rfl dX5_minus_1 ?_
  refine z_cS2r hC (ctX5_isHole hC.hm) kb_X5_isHole km_X5_26 ⟨by decide, by decide⟩ (Nat.le_of_ble_eq_true rfl) dX5_minus_2 ?_
  refine z_if_eq hC 14 (by decide) dX5_minus_5 (fun q5_1 => ?_) (fun q5_1 => ?_)
  · replace h := z_t q5_1 h
    refine z_lload_n hC 0 rfl rfl dX5_minus_14 ?_
    refine z_cS1r hC (ctX5_lowOf hC.hm) kb_X5_lowOf km_X5_19 ⟨by decide, by decide⟩ (Nat.le_of_ble_eq_true rfl) dX5_minus_15 ?_
    refine z_lload_n hC 1 rfl rfl dX5_minus_18 ?_
    refine z_cS1r hC (ctX5_highOf hC.hm) kb_X5_highOf km_X5_23 ⟨by decide, by decide⟩ (Nat.le_of_ble_eq_true rfl) dX5_minus_19 ?_
    refine z_lsub hC dX5_minus_22 ?_
    refine z_lload_n hC 0 rfl rfl dX5_minus_23 ?_
    refine z_cS1r hC (ctX5_highOf hC.hm) kb_X5_highOf km_X5_23 ⟨by decide, by decide⟩ (Nat.le_of_ble_eq_true rfl) dX5_minus_24 ?_
    refine z_lload_n hC 1 rfl rfl dX5_minus_27 ?_
    refine z_cS1r hC (ctX5_lowOf hC.hm) kb_X5_lowOf km_X5_19 ⟨by decide, by decide⟩ (Nat.le_of_ble_eq_true rfl) dX5_minus_28 ?_
    refine z_lsub hC dX5_minus_31 ?_
    refine z_cS2r hC (ctX5_of hC.hm) kb_X5_of km_X5_30 ⟨by decide, by decide⟩ (Nat.le_of_ble_eq_true rfl) dX5_minus_32 ?_
    refine z_nmL h (fun x32_2 h => ?_)
    subst h
    exact z_lret hC hQ dX5_minus_35
  · replace h := z_f q5_1 h
    refine z_ldc2 hC kc_X5_15 dX5_minus_8 ?_
    refine z_goto hC 35 (by decide) dX5_minus_11 ?_
    subst h
    exact z_lret hC hQ dX5_minus_35
set_option maxRecDepth 100000 in
theorem ctX5_minus {l : Launch} {G : zGt} {mk : zSt → zSt} {cl ch : Nat} (hm : zM mk cl ch) {a0 : Int64} {a2 : Int64} {σ : zSt} : zMet l G mk yX5_minus cX5_minus 4 (some .long) 1 23 [.long a0, .long a2] σ (some (.long (fX5_minus a0 a2 ))) σ := by

  refine zMet.of (plainFor_of_name (by decide +kernel)) hm (Nat.le_of_ble_eq_true rfl) (fun T eL eG eM hN hC hQ => ?_)
  subst eL; subst eG; subst eM
  refine z_sub [(0, .long a0), (2, .long a2)] [0, 1] rfl ?_
  exact wX5_minus_0 hC hN hQ _ _  rfl
noncomputable def fX5_times_0 (a0 : Int64) (a2 : Int64) : Int64 := 
    (if (fX5_isHole a0 a2) = 0 then nm ((fX5_lowOf a0) * (fX5_lowOf a2)) fun x21_2 => nm ((fX5_lowOf a0) * (fX5_highOf a2)) fun x32_3 => nm ((fX5_highOf a0) * (fX5_lowOf a2)) fun x43_4 => nm ((fX5_highOf a0) * (fX5_highOf a2)) fun x54_5 => nm (if (if x54_5 < x43_4 then x54_5 else x43_4) < (if x32_3 < x21_2 then x32_3 else x21_2) then (if x54_5 < x43_4 then x54_5 else x43_4) else (if x32_3 < x21_2 then x32_3 else x21_2)) fun x70_6 => nm (if (if x54_5 < x43_4 then x43_4 else x54_5) < (if x32_3 < x21_2 then x21_2 else x32_3) then (if x32_3 < x21_2 then x21_2 else x32_3) else (if x54_5 < x43_4 then x43_4 else x54_5)) fun x89_7 => (fX5_of (jshrL x70_6 (20 : Int32)) (-(jshrL (-x89_7) (20 : Int32))))
    else (4294967296 : Int64))
noncomputable def fX5_times (a0 : Int64) (a2 : Int64) : Int64 := fX5_times_0 a0 a2
set_option maxRecDepth 100000 in
set_option maxHeartbeats 4000000 in
theorem wX5_times_0 {T : zX} {cl ch : Nat} {σ : zSt} (hC : zOk T cX5_times RX5 1 23 cl ch) (hN : zNL T = 16) {r : Int64} (hQ : zRes T (some .long) (some (.long r)) σ) (a0 : Int64) (a2 : Int64)  (h : fX5_times_0 a0 a2  = r) : Z T σ 0 [(0, .long a0), (2, .long a2)] [] := by
  unfold fX5_times_0 at h
  refine z_lload_n hC 0 rfl rfl dX5_times_0 ?_
  refine z_lload_n hC 1 rfl rfl dX5_times_1 ?_
  refine z_cS2r hC (ctX5_isHole hC.hm) kb_X5_isHole km_X5_26 ⟨by decide, by decide⟩ (Nat.le_of_ble_eq_true rfl) dX5_times_2 ?_
  refine z_if_eq hC 12 (by decide) dX5_times_5 (fun q5_1 => ?_) (fun q5_1 => ?_)
  · replace h := z_t q5_1 h
    refine z_lload_n hC 0 rfl rfl dX5_times_12 ?_
    refine z_cS1r hC (ctX5_lowOf hC.hm) kb_X5_lowOf km_X5_19 ⟨by decide, by decide⟩ (Nat.le_of_ble_eq_true rfl) dX5_times_13 ?_
    refine z_lload_n hC 1 rfl rfl dX5_times_16 ?_
    refine z_cS1r hC (ctX5_lowOf hC.hm) kb_X5_lowOf km_X5_19 ⟨by decide, by decide⟩ (Nat.le_of_ble_eq_true rfl) dX5_times_17 ?_
    refine z_lmul hC dX5_times_20 ?_
    refine z_nmL h (fun x21_2 h => ?_)
    refine z_lstore hC [(4, .long x21_2), (0, .long a0), (2, .long a2)] (by rw [hN]; decide) rfl dX5_times_21 ?_
    refine z_lload_n hC 1 rfl rfl dX5_times_23 ?_
    refine z_cS1r hC (ctX5_lowOf hC.hm) kb_X5_lowOf km_X5_19 ⟨by decide, by decide⟩ (Nat.le_of_ble_eq_true rfl) dX5_times_24 ?_
    refine z_lload_n hC 2 rfl rfl dX5_times_27 ?_
    refine z_cS1r hC (ctX5_highOf hC.hm) kb_X5_highOf km_X5_23 ⟨by decide, by decide⟩ (Nat.le_of_ble_eq_true rfl) dX5_times_28 ?_
    refine z_lmul hC dX5_times_31 ?_
    refine z_nmL h (fun x32_3 h => ?_)
    refine z_lstore hC [(6, .long x32_3), (4, .long x21_2), (0, .long a0), (2, .long a2)] (by rw [hN]; decide) rfl dX5_times_32 ?_
    refine z_lload_n hC 2 rfl rfl dX5_times_34 ?_
    refine z_cS1r hC (ctX5_highOf hC.hm) kb_X5_highOf km_X5_23 ⟨by decide, by decide⟩ (Nat.le_of_ble_eq_true rfl) dX5_times_35 ?_
    refine z_lload_n hC 3 rfl rfl dX5_times_38 ?_
    refine z_cS1r hC (ctX5_lowOf hC.hm) kb_X5_lowOf km_X5_19 ⟨by decide, by decide⟩ (Nat.le_of_ble_eq_true rfl) dX5_times_39 ?_
    refine z_lmul hC dX5_times_42 ?_
    refine z_nmL h (fun x43_4 h => ?_)
    refine z_lstore hC [(8, .long x43_4), (6, .long x32_3), (4, .long x21_2), (0, .long a0), (2, .long a2)] (by rw [hN]; decide) rfl dX5_times_43 ?_
    refine z_lload_n hC 3 rfl rfl dX5_times_45 ?_
    refine z_cS1r hC (ctX5_highOf hC.hm) kb_X5_highOf km_X5_23 ⟨by decide, by decide⟩ (Nat.le_of_ble_eq_true rfl) dX5_times_46 ?_
    refine z_lload_n hC 4 rfl rfl dX5_times_49 ?_
    refine z_cS1r hC (ctX5_highOf hC.hm) kb_X5_highOf km_X5_23 ⟨by decide, by decide⟩ (Nat.le_of_ble_eq_true rfl) dX5_times_50 ?_
    refine z_lmul hC dX5_times_53 ?_
    refine z_nmL h (fun x54_5 h => ?_)
    refine z_lstore hC [(10, .long x54_5), (8, .long x43_4), (6, .long x32_3), (4, .long x21_2), (0, .long a0), (2, .long a2)] (by rw [hN]; decide) rfl dX5_times_54 ?_
    refine z_lload hC 3 rfl dX5_times_56 ?_
    refine z_lload hC 2 rfl dX5_times_58 ?_
    refine z_mminL hC km_X5_34 (Nat.le_of_ble_eq_true rfl) (Nat.le_of_ble_eq_true rfl) dX5_times_60 ?_
    refine z_lload hC 1 rfl dX5_times_63 ?_
    refine z_lload hC 0 rfl dX5_times_65 ?_
    refine z_mminL hC km_X5_34 (Nat.le_of_ble_eq_true rfl) (Nat.le_of_ble_eq_true rfl) dX5_times_67 ?_
    refine z_mminL hC km_X5_34 (Nat.le_of_ble_eq_true rfl) (Nat.le_of_ble_eq_true rfl) dX5_times_70 ?_
    refine z_nmL h (fun x70_6 h => ?_)
    refine z_lstore hC [(12, .long x70_6), (10, .long x54_5), (8, .long x43_4), (6, .long x32_3), (4, .long x21_2), (0, .long a0), (2, .long a2)] (by rw [hN]; decide) rfl dX5_times_73 ?_
    refine z_lload hC 4 rfl dX5_times_75 ?_
    refine z_lload hC 3 rfl dX5_times_77 ?_
    refine z_mmaxL hC km_X5_39 (Nat.le_of_ble_eq_true rfl) (Nat.le_of_ble_eq_true rfl) dX5_times_79 ?_
    refine z_lload hC 2 rfl dX5_times_82 ?_
    refine z_lload hC 1 rfl dX5_times_84 ?_
    refine z_mmaxL hC km_X5_39 (Nat.le_of_ble_eq_true rfl) (Nat.le_of_ble_eq_true rfl) dX5_times_86 ?_
    refine z_mmaxL hC km_X5_39 (Nat.le_of_ble_eq_true rfl) (Nat.le_of_ble_eq_true rfl) dX5_times_89 ?_
    refine z_nmL h (fun x89_7 h => ?_)
    refine z_lstore hC [(14, .long x89_7), (12, .long x70_6), (10, .long x54_5), (8, .long x43_4), (6, .long x32_3), (4, .long x21_2), (0, .long a0), (2, .long a2)] (by rw [hN]; decide) rfl dX5_times_92 ?_
    refine z_lload hC 1 rfl dX5_times_94 ?_
    refine z_bipush hC (20 : Int32) (by decide) dX5_times_96 ?_
    refine z_lshr hC dX5_times_98 ?_
    refine z_lload hC 0 rfl dX5_times_99 ?_
    refine z_lneg hC dX5_times_101 ?_
    refine z_bipush hC (20 : Int32) (by decide) dX5_times_102 ?_
    refine z_lshr hC dX5_times_104 ?_
    refine z_lneg hC dX5_times_105 ?_
    refine z_cS2r hC (ctX5_of hC.hm) kb_X5_of km_X5_30 ⟨by decide, by decide⟩ (Nat.le_of_ble_eq_true rfl) dX5_times_106 ?_
    subst h
    exact z_lret hC hQ dX5_times_109
  · replace h := z_f q5_1 h
    refine z_ldc2 hC kc_X5_15 dX5_times_8 ?_
    subst h
    exact z_lret hC hQ dX5_times_11
set_option maxRecDepth 100000 in
theorem ctX5_times {l : Launch} {G : zGt} {mk : zSt → zSt} {cl ch : Nat} (hm : zM mk cl ch) {a0 : Int64} {a2 : Int64} {σ : zSt} : zMet l G mk yX5_times cX5_times 16 (some .long) 1 23 [.long a0, .long a2] σ (some (.long (fX5_times a0 a2 ))) σ := by

  refine zMet.of (plainFor_of_name (by decide +kernel)) hm (Nat.le_of_ble_eq_true rfl) (fun T eL eG eM hN hC hQ => ?_)
  subst eL; subst eG; subst eM
  refine z_sub [(0, .long a0), (2, .long a2)] [0, 1] rfl ?_
  exact wX5_times_0 hC hN hQ _ _  rfl
noncomputable def fX5_hasNoZero_0 (a0 : Int64) : Int32 := 
    (if a0 = (4294967296 : Int64) then (0 : Int32)
    else 
      (if (0 : Int64) < (fX5_lowOf a0) then (1 : Int32)
      else 
        (if (0 : Int64) ≤ (fX5_highOf a0) then (0 : Int32)
        else (1 : Int32))))
noncomputable def fX5_hasNoZero (a0 : Int64) : Int32 := fX5_hasNoZero_0 a0
set_option maxRecDepth 100000 in
set_option maxHeartbeats 4000000 in
theorem wX5_hasNoZero_0 {T : zX} {cl ch : Nat} {σ : zSt} (hC : zOk T cX5_hasNoZero RX5 1 21 cl ch) (hN : zNL T = 2) {r : Int32} (hQ : zRes T (some .boolean) (some (.int r)) σ) (a0 : Int64)  (h : fX5_hasNoZero_0 a0  = r) : Z T σ 0 [(0, .long a0)] [] := by
  unfold fX5_hasNoZero_0 at h
  refine z_lload_n hC 0 rfl rfl dX5_hasNoZero_0 ?_
  refine z_ldc2 hC kc_X5_15 dX5_hasNoZero_1 ?_
  refine z_cmp_eq hC 30 (by decide) dX5_hasNoZero_4 dX5_hasNoZero_5 (fun q4_1 => ?_) (fun q4_1 => ?_)
  · replace h := z_t q4_1 h
    refine z_iconst hC (0 : Int32) (by decide) dX5_hasNoZero_30 ?_
    subst h
    exact z_zret hC hQ dX5_hasNoZero_31 (by decide)
  · replace h := z_f q4_1 h
    refine z_lload_n hC 0 rfl rfl dX5_hasNoZero_8 ?_
    refine z_cS1r hC (ctX5_lowOf hC.hm) kb_X5_lowOf km_X5_19 ⟨by decide, by decide⟩ (Nat.le_of_ble_eq_true rfl) dX5_hasNoZero_9 ?_
    refine z_lconst hC (0 : Int64) (by decide) dX5_hasNoZero_12 ?_
    refine z_cmp_gt hC 26 (by decide) dX5_hasNoZero_13 dX5_hasNoZero_14 (fun q13_2 => ?_) (fun q13_2 => ?_)
    · replace h := z_t q13_2 h
      refine z_iconst hC (1 : Int32) (by decide) dX5_hasNoZero_26 ?_
      refine z_goto hC 31 (by decide) dX5_hasNoZero_27 ?_
      subst h
      exact z_zret hC hQ dX5_hasNoZero_31 (by decide)
    · replace h := z_f q13_2 h
      refine z_lload_n hC 0 rfl rfl dX5_hasNoZero_17 ?_
      refine z_cS1r hC (ctX5_highOf hC.hm) kb_X5_highOf km_X5_23 ⟨by decide, by decide⟩ (Nat.le_of_ble_eq_true rfl) dX5_hasNoZero_18 ?_
      refine z_lconst hC (0 : Int64) (by decide) dX5_hasNoZero_21 ?_
      refine z_cmp_ge hC 30 (by decide) dX5_hasNoZero_22 dX5_hasNoZero_23 (fun q22_3 => ?_) (fun q22_3 => ?_)
      · replace h := z_t q22_3 h
        refine z_iconst hC (0 : Int32) (by decide) dX5_hasNoZero_30 ?_
        subst h
        exact z_zret hC hQ dX5_hasNoZero_31 (by decide)
      · replace h := z_f q22_3 h
        refine z_iconst hC (1 : Int32) (by decide) dX5_hasNoZero_26 ?_
        refine z_goto hC 31 (by decide) dX5_hasNoZero_27 ?_
        subst h
        exact z_zret hC hQ dX5_hasNoZero_31 (by decide)
set_option maxRecDepth 100000 in
theorem ctX5_hasNoZero {l : Launch} {G : zGt} {mk : zSt → zSt} {cl ch : Nat} (hm : zM mk cl ch) {a0 : Int64} {σ : zSt} : zMet l G mk yX5_hasNoZero cX5_hasNoZero 2 (some .boolean) 1 21 [.long a0] σ (some (.int (fX5_hasNoZero a0 ))) σ := by

  refine zMet.of (plainFor_of_name (by decide +kernel)) hm (Nat.le_of_ble_eq_true rfl) (fun T eL eG eM hN hC hQ => ?_)
  subst eL; subst eG; subst eM
  refine z_sub [(0, .long a0)] [0] rfl ?_
  exact wX5_hasNoZero_0 hC hN hQ _  rfl
noncomputable def fX5_over_0 (a0 : Int64) (a2 : Int64) : Option Int64 := 
    (if (fX5_isHole a0 a2) = 0 then 
      (if (fX5_hasNoZero a2) = 0 then some (4294967296 : Int64)
      else nm (jshlL (fX5_lowOf a0) (20 : Int32)) fun x26_3 => nm (jshlL (fX5_highOf a0) (20 : Int32)) fun x35_4 => nm (fX5_lowOf a2) fun x41_5 => nm (fX5_highOf a2) fun x47_6 => 
        (if x41_5 = (0 : Int64) then some (4294967296 : Int64)
        else 
          (if x47_6 = (0 : Int64) then some (4294967296 : Int64)
          else bd1 (fJ9_floorDiv_f86c9 x26_3 x41_5) fun r71_9 => bd1 (fJ9_floorDiv_f86c9 x26_3 x47_6) fun r78_10 => bd1 (fJ9_floorDiv_f86c9 x35_4 x41_5) fun r88_11 => bd1 (fJ9_floorDiv_f86c9 x35_4 x47_6) fun r95_12 => nm (if (if r95_12 < r88_11 then r95_12 else r88_11) < (if r78_10 < r71_9 then r78_10 else r71_9) then (if r95_12 < r88_11 then r95_12 else r88_11) else (if r78_10 < r71_9 then r78_10 else r71_9)) fun x101_13 => bd1 (fJ9_floorDiv_f86c9 (-x26_3) x41_5) fun r111_14 => bd1 (fJ9_floorDiv_f86c9 (-x26_3) x47_6) fun r119_15 => bd1 (fJ9_floorDiv_f86c9 (-x35_4) x41_5) fun r130_16 => bd1 (fJ9_floorDiv_f86c9 (-x35_4) x47_6) fun r138_17 => nm (if (if r138_17 < r130_16 then r138_17 else r130_16) < (if r119_15 < r111_14 then r119_15 else r111_14) then (if r138_17 < r130_16 then r138_17 else r130_16) else (if r119_15 < r111_14 then r119_15 else r111_14)) fun x144_18 => nm (-x144_18) fun x148_19 => some (fX5_of x101_13 x148_19))))
    else some (4294967296 : Int64))
noncomputable def fX5_over (a0 : Int64) (a2 : Int64) : Option Int64 := fX5_over_0 a0 a2
set_option maxRecDepth 100000 in
set_option maxHeartbeats 4000000 in
theorem wX5_over_0 {T : zX} {cl ch : Nat} {σ : zSt} (hC : zOk T cX5_over RX5 2 42 cl ch) (hN : zNL T = 16) {r : Int64} (hQ : zRes T (some .long) (some (.long r)) σ) (a0 : Int64) (a2 : Int64)  (h : fX5_over_0 a0 a2  = some r) : Z T σ 0 [(0, .long a0), (2, .long a2)] [] := by
  unfold fX5_over_0 at h
  refine z_lload_n hC 0 rfl rfl dX5_over_0 ?_
  refine z_lload_n hC 1 rfl rfl dX5_over_1 ?_
  refine z_cS2r hC (ctX5_isHole hC.hm) kb_X5_isHole km_X5_26 ⟨by decide, by decide⟩ (Nat.le_of_ble_eq_true rfl) dX5_over_2 ?_
  refine z_if_ne hC 15 (by decide) dX5_over_5 (fun q5_1 => ?_) (fun q5_1 => ?_)
  · replace h := z_f q5_1 h
    refine z_ldc2 hC kc_X5_15 dX5_over_15 ?_
    cases h
    exact z_lret hC hQ dX5_over_18
  · replace h := z_t q5_1 h
    refine z_lload_n hC 1 rfl rfl dX5_over_8 ?_
    refine z_cS1r hC (ctX5_hasNoZero hC.hm) kb_X5_hasNoZero km_X5_42 ⟨by decide, by decide⟩ (Nat.le_of_ble_eq_true rfl) dX5_over_9 ?_
    refine z_if_ne hC 19 (by decide) dX5_over_12 (fun q12_2 => ?_) (fun q12_2 => ?_)
    · replace h := z_f q12_2 h
      refine z_lload_n hC 0 rfl rfl dX5_over_19 ?_
      refine z_cS1r hC (ctX5_lowOf hC.hm) kb_X5_lowOf km_X5_19 ⟨by decide, by decide⟩ (Nat.le_of_ble_eq_true rfl) dX5_over_20 ?_
      refine z_bipush hC (20 : Int32) (by decide) dX5_over_23 ?_
      refine z_lshl hC dX5_over_25 ?_
      refine z_nmL h (fun x26_3 h => ?_)
      refine z_lstore hC [(4, .long x26_3), (0, .long a0), (2, .long a2)] (by rw [hN]; decide) rfl dX5_over_26 ?_
      refine z_lload_n hC 1 rfl rfl dX5_over_28 ?_
      refine z_cS1r hC (ctX5_highOf hC.hm) kb_X5_highOf km_X5_23 ⟨by decide, by decide⟩ (Nat.le_of_ble_eq_true rfl) dX5_over_29 ?_
      refine z_bipush hC (20 : Int32) (by decide) dX5_over_32 ?_
      refine z_lshl hC dX5_over_34 ?_
      refine z_nmL h (fun x35_4 h => ?_)
      refine z_lstore hC [(6, .long x35_4), (4, .long x26_3), (0, .long a0), (2, .long a2)] (by rw [hN]; decide) rfl dX5_over_35 ?_
      refine z_lload_n hC 3 rfl rfl dX5_over_37 ?_
      refine z_cS1r hC (ctX5_lowOf hC.hm) kb_X5_lowOf km_X5_19 ⟨by decide, by decide⟩ (Nat.le_of_ble_eq_true rfl) dX5_over_38 ?_
      refine z_nmL h (fun x41_5 h => ?_)
      refine z_lstore hC [(8, .long x41_5), (6, .long x35_4), (4, .long x26_3), (0, .long a0), (2, .long a2)] (by rw [hN]; decide) rfl dX5_over_41 ?_
      refine z_lload_n hC 4 rfl rfl dX5_over_43 ?_
      refine z_cS1r hC (ctX5_highOf hC.hm) kb_X5_highOf km_X5_23 ⟨by decide, by decide⟩ (Nat.le_of_ble_eq_true rfl) dX5_over_44 ?_
      refine z_nmL h (fun x47_6 h => ?_)
      refine z_lstore hC [(10, .long x47_6), (8, .long x41_5), (6, .long x35_4), (4, .long x26_3), (0, .long a0), (2, .long a2)] (by rw [hN]; decide) rfl dX5_over_47 ?_
      refine z_lload hC 1 rfl dX5_over_49 ?_
      refine z_lconst hC (0 : Int64) (by decide) dX5_over_51 ?_
      refine z_cmp_eq hC 63 (by decide) dX5_over_52 dX5_over_53 (fun q52_7 => ?_) (fun q52_7 => ?_)
      · replace h := z_t q52_7 h
        refine z_ldc2 hC kc_X5_15 dX5_over_63 ?_
        cases h
        exact z_lret hC hQ dX5_over_66
      · replace h := z_f q52_7 h
        refine z_lload hC 0 rfl dX5_over_56 ?_
        refine z_lconst hC (0 : Int64) (by decide) dX5_over_58 ?_
        refine z_cmp_ne hC 67 (by decide) dX5_over_59 dX5_over_60 (fun q59_8 => ?_) (fun q59_8 => ?_)
        · replace h := z_f q59_8 h
          refine z_lload hC 3 rfl dX5_over_67 ?_
          refine z_lload hC 1 rfl dX5_over_69 ?_
          refine z_b1 h (fun r71_9 e_r71_9 h => ?_)
          refine z_cS2r hC (ctJ9_floorDiv_f86c9 hC.hm e_r71_9) kb_J9_floorDiv_f86c9 km_X5_46 ⟨by decide, by decide⟩ (Nat.le_of_ble_eq_true rfl) dX5_over_71 ?_
          refine z_lload hC 3 rfl dX5_over_74 ?_
          refine z_lload hC 0 rfl dX5_over_76 ?_
          refine z_b1 h (fun r78_10 e_r78_10 h => ?_)
          refine z_cS2r hC (ctJ9_floorDiv_f86c9 hC.hm e_r78_10) kb_J9_floorDiv_f86c9 km_X5_46 ⟨by decide, by decide⟩ (Nat.le_of_ble_eq_true rfl) dX5_over_78 ?_
          refine z_mminL hC km_X5_34 (Nat.le_of_ble_eq_true rfl) (Nat.le_of_ble_eq_true rfl) dX5_over_81 ?_
          refine z_lload hC 2 rfl dX5_over_84 ?_
          refine z_lload hC 1 rfl dX5_over_86 ?_
          refine z_b1 h (fun r88_11 e_r88_11 h => ?_)
          refine z_cS2r hC (ctJ9_floorDiv_f86c9 hC.hm e_r88_11) kb_J9_floorDiv_f86c9 km_X5_46 ⟨by decide, by decide⟩ (Nat.le_of_ble_eq_true rfl) dX5_over_88 ?_
          refine z_lload hC 2 rfl dX5_over_91 ?_
          refine z_lload hC 0 rfl dX5_over_93 ?_
          refine z_b1 h (fun r95_12 e_r95_12 h => ?_)
          refine z_cS2r hC (ctJ9_floorDiv_f86c9 hC.hm e_r95_12) kb_J9_floorDiv_f86c9 km_X5_46 ⟨by decide, by decide⟩ (Nat.le_of_ble_eq_true rfl) dX5_over_95 ?_
          refine z_mminL hC km_X5_34 (Nat.le_of_ble_eq_true rfl) (Nat.le_of_ble_eq_true rfl) dX5_over_98 ?_
          refine z_mminL hC km_X5_34 (Nat.le_of_ble_eq_true rfl) (Nat.le_of_ble_eq_true rfl) dX5_over_101 ?_
          refine z_nmL h (fun x101_13 h => ?_)
          refine z_lstore hC [(12, .long x101_13), (10, .long x47_6), (8, .long x41_5), (6, .long x35_4), (4, .long x26_3), (0, .long a0), (2, .long a2)] (by rw [hN]; decide) rfl dX5_over_104 ?_
          refine z_lload hC 4 rfl dX5_over_106 ?_
          refine z_lneg hC dX5_over_108 ?_
          refine z_lload hC 2 rfl dX5_over_109 ?_
          refine z_b1 h (fun r111_14 e_r111_14 h => ?_)
          refine z_cS2r hC (ctJ9_floorDiv_f86c9 hC.hm e_r111_14) kb_J9_floorDiv_f86c9 km_X5_46 ⟨by decide, by decide⟩ (Nat.le_of_ble_eq_true rfl) dX5_over_111 ?_
          refine z_lload hC 4 rfl dX5_over_114 ?_
          refine z_lneg hC dX5_over_116 ?_
          refine z_lload hC 1 rfl dX5_over_117 ?_
          refine z_b1 h (fun r119_15 e_r119_15 h => ?_)
          refine z_cS2r hC (ctJ9_floorDiv_f86c9 hC.hm e_r119_15) kb_J9_floorDiv_f86c9 km_X5_46 ⟨by decide, by decide⟩ (Nat.le_of_ble_eq_true rfl) dX5_over_119 ?_
          refine z_mminL hC km_X5_34 (Nat.le_of_ble_eq_true rfl) (Nat.le_of_ble_eq_true rfl) dX5_over_122 ?_
          refine z_lload hC 3 rfl dX5_over_125 ?_
          refine z_lneg hC dX5_over_127 ?_
          refine z_lload hC 2 rfl dX5_over_128 ?_
          refine z_b1 h (fun r130_16 e_r130_16 h => ?_)
          refine z_cS2r hC (ctJ9_floorDiv_f86c9 hC.hm e_r130_16) kb_J9_floorDiv_f86c9 km_X5_46 ⟨by decide, by decide⟩ (Nat.le_of_ble_eq_true rfl) dX5_over_130 ?_
          refine z_lload hC 3 rfl dX5_over_133 ?_
          refine z_lneg hC dX5_over_135 ?_
          refine z_lload hC 1 rfl dX5_over_136 ?_
          refine z_b1 h (fun r138_17 e_r138_17 h => ?_)
          refine z_cS2r hC (ctJ9_floorDiv_f86c9 hC.hm e_r138_17) kb_J9_floorDiv_f86c9 km_X5_46 ⟨by decide, by decide⟩ (Nat.le_of_ble_eq_true rfl) dX5_over_138 ?_
          refine z_mminL hC km_X5_34 (Nat.le_of_ble_eq_true rfl) (Nat.le_of_ble_eq_true rfl) dX5_over_141 ?_
          refine z_mminL hC km_X5_34 (Nat.le_of_ble_eq_true rfl) (Nat.le_of_ble_eq_true rfl) dX5_over_144 ?_
          refine z_nmL h (fun x144_18 h => ?_)
          refine z_lneg hC dX5_over_147 ?_
          refine z_nmL h (fun x148_19 h => ?_)
          refine z_lstore hC [(14, .long x148_19), (12, .long x101_13), (10, .long x47_6), (8, .long x41_5), (6, .long x35_4), (4, .long x26_3), (0, .long a0), (2, .long a2)] (by rw [hN]; decide) rfl dX5_over_148 ?_
          refine z_lload hC 1 rfl dX5_over_150 ?_
          refine z_lload hC 0 rfl dX5_over_152 ?_
          refine z_cS2r hC (ctX5_of hC.hm) kb_X5_of km_X5_30 ⟨by decide, by decide⟩ (Nat.le_of_ble_eq_true rfl) dX5_over_154 ?_
          cases h
          exact z_lret hC hQ dX5_over_157
        · replace h := z_t q59_8 h
          refine z_ldc2 hC kc_X5_15 dX5_over_63 ?_
          cases h
          exact z_lret hC hQ dX5_over_66
    · replace h := z_t q12_2 h
      refine z_ldc2 hC kc_X5_15 dX5_over_15 ?_
      cases h
      exact z_lret hC hQ dX5_over_18
set_option maxRecDepth 100000 in
theorem ctX5_over {l : Launch} {G : zGt} {mk : zSt → zSt} {cl ch : Nat} (hm : zM mk cl ch) {a0 : Int64} {a2 : Int64} {σ : zSt} {r : Int64} (h : fX5_over a0 a2  = some r) : zMet l G mk yX5_over cX5_over 16 (some .long) 2 42 [.long a0, .long a2] σ (some (.long r)) σ := by
  unfold fX5_over at h

  refine zMet.of (plainFor_of_name (by decide +kernel)) hm (Nat.le_of_ble_eq_true rfl) (fun T eL eG eM hN hC hQ => ?_)
  subst eL; subst eG; subst eM
  refine z_sub [(0, .long a0), (2, .long a2)] [0, 1] rfl ?_
  exact wX5_over_0 hC hN hQ _ _  h
noncomputable def fX5_together_0 (a0 : Int64) (a2 : Int64) : Int64 := 
    (if (fX5_isHole a0 a2) = 0 then nm (if (fX5_lowOf a2) < (fX5_lowOf a0) then (fX5_lowOf a2) else (fX5_lowOf a0)) fun x22_2 => nm (if (fX5_highOf a2) < (fX5_highOf a0) then (fX5_highOf a0) else (fX5_highOf a2)) fun x33_3 => (fX5_of x22_2 x33_3)
    else (4294967296 : Int64))
noncomputable def fX5_together (a0 : Int64) (a2 : Int64) : Int64 := fX5_together_0 a0 a2
set_option maxRecDepth 100000 in
set_option maxHeartbeats 4000000 in
theorem wX5_together_0 {T : zX} {cl ch : Nat} {σ : zSt} (hC : zOk T cX5_together RX5 1 23 cl ch) (hN : zNL T = 4) {r : Int64} (hQ : zRes T (some .long) (some (.long r)) σ) (a0 : Int64) (a2 : Int64)  (h : fX5_together_0 a0 a2  = r) : Z T σ 0 [(0, .long a0), (2, .long a2)] [] := by
  unfold fX5_together_0 at h
  refine z_lload_n hC 0 rfl rfl dX5_together_0 ?_
  refine z_lload_n hC 1 rfl rfl dX5_together_1 ?_
  refine z_cS2r hC (ctX5_isHole hC.hm) kb_X5_isHole km_X5_26 ⟨by decide, by decide⟩ (Nat.le_of_ble_eq_true rfl) dX5_together_2 ?_
  refine z_if_eq hC 14 (by decide) dX5_together_5 (fun q5_1 => ?_) (fun q5_1 => ?_)
  · replace h := z_t q5_1 h
    refine z_lload_n hC 0 rfl rfl dX5_together_14 ?_
    refine z_cS1r hC (ctX5_lowOf hC.hm) kb_X5_lowOf km_X5_19 ⟨by decide, by decide⟩ (Nat.le_of_ble_eq_true rfl) dX5_together_15 ?_
    refine z_lload_n hC 1 rfl rfl dX5_together_18 ?_
    refine z_cS1r hC (ctX5_lowOf hC.hm) kb_X5_lowOf km_X5_19 ⟨by decide, by decide⟩ (Nat.le_of_ble_eq_true rfl) dX5_together_19 ?_
    refine z_mminL hC km_X5_34 (Nat.le_of_ble_eq_true rfl) (Nat.le_of_ble_eq_true rfl) dX5_together_22 ?_
    refine z_nmL h (fun x22_2 h => ?_)
    refine z_lload_n hC 0 rfl rfl dX5_together_25 ?_
    refine z_cS1r hC (ctX5_highOf hC.hm) kb_X5_highOf km_X5_23 ⟨by decide, by decide⟩ (Nat.le_of_ble_eq_true rfl) dX5_together_26 ?_
    refine z_lload_n hC 1 rfl rfl dX5_together_29 ?_
    refine z_cS1r hC (ctX5_highOf hC.hm) kb_X5_highOf km_X5_23 ⟨by decide, by decide⟩ (Nat.le_of_ble_eq_true rfl) dX5_together_30 ?_
    refine z_mmaxL hC km_X5_39 (Nat.le_of_ble_eq_true rfl) (Nat.le_of_ble_eq_true rfl) dX5_together_33 ?_
    refine z_nmL h (fun x33_3 h => ?_)
    refine z_cS2r hC (ctX5_of hC.hm) kb_X5_of km_X5_30 ⟨by decide, by decide⟩ (Nat.le_of_ble_eq_true rfl) dX5_together_36 ?_
    subst h
    exact z_lret hC hQ dX5_together_39
  · replace h := z_f q5_1 h
    refine z_ldc2 hC kc_X5_15 dX5_together_8 ?_
    refine z_goto hC 39 (by decide) dX5_together_11 ?_
    subst h
    exact z_lret hC hQ dX5_together_39
set_option maxRecDepth 100000 in
theorem ctX5_together {l : Launch} {G : zGt} {mk : zSt → zSt} {cl ch : Nat} (hm : zM mk cl ch) {a0 : Int64} {a2 : Int64} {σ : zSt} : zMet l G mk yX5_together cX5_together 4 (some .long) 1 23 [.long a0, .long a2] σ (some (.long (fX5_together a0 a2 ))) σ := by

  refine zMet.of (plainFor_of_name (by decide +kernel)) hm (Nat.le_of_ble_eq_true rfl) (fun T eL eG eM hN hC hQ => ?_)
  subst eL; subst eG; subst eM
  refine z_sub [(0, .long a0), (2, .long a2)] [0, 1] rfl ?_
  exact wX5_together_0 hC hN hQ _ _  rfl
noncomputable def fX5_isApart_0 (a0 : Int64) (a2 : Int64) : Int32 := 
    (if (fX5_lowOf a2) < (fX5_highOf a0) then (0 : Int32)
    else (1 : Int32))
noncomputable def fX5_isApart (a0 : Int64) (a2 : Int64) : Int32 := fX5_isApart_0 a0 a2
set_option maxRecDepth 100000 in
set_option maxHeartbeats 4000000 in
theorem wX5_isApart_0 {T : zX} {cl ch : Nat} {σ : zSt} (hC : zOk T cX5_isApart RX5 1 21 cl ch) (hN : zNL T = 4) {r : Int32} (hQ : zRes T (some .boolean) (some (.int r)) σ) (a0 : Int64) (a2 : Int64)  (h : fX5_isApart_0 a0 a2  = r) : Z T σ 0 [(0, .long a0), (2, .long a2)] [] := by
  unfold fX5_isApart_0 at h
  refine z_lload_n hC 0 rfl rfl dX5_isApart_0 ?_
  refine z_cS1r hC (ctX5_highOf hC.hm) kb_X5_highOf km_X5_23 ⟨by decide, by decide⟩ (Nat.le_of_ble_eq_true rfl) dX5_isApart_1 ?_
  refine z_lload_n hC 1 rfl rfl dX5_isApart_4 ?_
  refine z_cS1r hC (ctX5_lowOf hC.hm) kb_X5_lowOf km_X5_19 ⟨by decide, by decide⟩ (Nat.le_of_ble_eq_true rfl) dX5_isApart_5 ?_
  refine z_cmp_gt hC 16 (by decide) dX5_isApart_8 dX5_isApart_9 (fun q8_1 => ?_) (fun q8_1 => ?_)
  · replace h := z_t q8_1 h
    refine z_iconst hC (0 : Int32) (by decide) dX5_isApart_16 ?_
    subst h
    exact z_zret hC hQ dX5_isApart_17 (by decide)
  · replace h := z_f q8_1 h
    refine z_iconst hC (1 : Int32) (by decide) dX5_isApart_12 ?_
    refine z_goto hC 17 (by decide) dX5_isApart_13 ?_
    subst h
    exact z_zret hC hQ dX5_isApart_17 (by decide)
set_option maxRecDepth 100000 in
theorem ctX5_isApart {l : Launch} {G : zGt} {mk : zSt → zSt} {cl ch : Nat} (hm : zM mk cl ch) {a0 : Int64} {a2 : Int64} {σ : zSt} : zMet l G mk yX5_isApart cX5_isApart 4 (some .boolean) 1 21 [.long a0, .long a2] σ (some (.int (fX5_isApart a0 a2 ))) σ := by

  refine zMet.of (plainFor_of_name (by decide +kernel)) hm (Nat.le_of_ble_eq_true rfl) (fun T eL eG eM hN hC hQ => ?_)
  subst eL; subst eG; subst eM
  refine z_sub [(0, .long a0), (2, .long a2)] [0, 1] rfl ?_
  exact wX5_isApart_0 hC hN hQ _ _  rfl
end
