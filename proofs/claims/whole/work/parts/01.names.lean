-- ===== PART A: goes FIRST, ahead of the names: the tables' words, and 'selects' of the private methods out of them =====
/-- a private method of a class that the tables say can be made, by its rows of tables_1 -/
def lw_okq (q : MethodName × Nat) : Prop := (q.1.cls ≠ "java/lang/invoke/MethodHandle" ∧ q.1.cls ≠ "java/lang/invoke/VarHandle") ∧ Cond.instantiable q.1.cls q.2 ∈ tables_1 ∧ Cond.privateMethod q.1 ∈ tables_1 ∧ Cond.instanceMethod q.1 ∈ tables_1
theorem lw_p0 : lw_okq (⟨"MoorStones$Reader", "toNextToken", "()V"⟩, 5) := ⟨⟨by decide +kernel, by decide +kernel⟩, List.mem_of_getElem? (i := 25) (by decide +kernel), List.mem_of_getElem? (i := 240) (by decide +kernel), List.mem_of_getElem? (i := 241) (by decide +kernel)⟩
theorem lw_p1 : lw_okq (⟨"MoorStones$Reader", "sortOfDigits", "(I)I"⟩, 5) := ⟨⟨by decide +kernel, by decide +kernel⟩, List.mem_of_getElem? (i := 25) (by decide +kernel), List.mem_of_getElem? (i := 253) (by decide +kernel), List.mem_of_getElem? (i := 254) (by decide +kernel)⟩
theorem lw_p2 : lw_okq (⟨"MoorStones$Reader", "readItem", "(LMoorStones$Told;)Z"⟩, 5) := ⟨⟨by decide +kernel, by decide +kernel⟩, List.mem_of_getElem? (i := 25) (by decide +kernel), List.mem_of_getElem? (i := 257) (by decide +kernel), List.mem_of_getElem? (i := 258) (by decide +kernel)⟩
theorem lw_p3 : lw_okq (⟨"MoorStones$Reader", "isWord", "(Ljava/lang/String;)Z"⟩, 5) := ⟨⟨by decide +kernel, by decide +kernel⟩, List.mem_of_getElem? (i := 25) (by decide +kernel), List.mem_of_getElem? (i := 262) (by decide +kernel), List.mem_of_getElem? (i := 263) (by decide +kernel)⟩
theorem lw_p4 : lw_okq (⟨"MoorStones$Reader", "readRow", "(LMoorStones$Told;)Z"⟩, 5) := ⟨⟨by decide +kernel, by decide +kernel⟩, List.mem_of_getElem? (i := 25) (by decide +kernel), List.mem_of_getElem? (i := 314) (by decide +kernel), List.mem_of_getElem? (i := 315) (by decide +kernel)⟩
theorem lw_p5 : lw_okq (⟨"MoorStones$Reader", "readWalker", "(LMoorStones$Told;)Z"⟩, 5) := ⟨⟨by decide +kernel, by decide +kernel⟩, List.mem_of_getElem? (i := 25) (by decide +kernel), List.mem_of_getElem? (i := 331) (by decide +kernel), List.mem_of_getElem? (i := 332) (by decide +kernel)⟩
theorem lw_p6 : lw_okq (⟨"MoorStones$Reader", "isNumberTo", "(I)Z"⟩, 5) := ⟨⟨by decide +kernel, by decide +kernel⟩, List.mem_of_getElem? (i := 25) (by decide +kernel), List.mem_of_getElem? (i := 335) (by decide +kernel), List.mem_of_getElem? (i := 336) (by decide +kernel)⟩
theorem lw_p7 : lw_okq (⟨"MoorStones$Reader", "readSink", "(LMoorStones$Told;)Z"⟩, 5) := ⟨⟨by decide +kernel, by decide +kernel⟩, List.mem_of_getElem? (i := 25) (by decide +kernel), List.mem_of_getElem? (i := 345) (by decide +kernel), List.mem_of_getElem? (i := 346) (by decide +kernel)⟩
theorem lw_p8 : lw_okq (⟨"MoorStones", "isCell", "(I)Z"⟩, 10) := ⟨⟨by decide +kernel, by decide +kernel⟩, List.mem_of_getElem? (i := 17) (by decide +kernel), List.mem_of_getElem? (i := 379) (by decide +kernel), List.mem_of_getElem? (i := 380) (by decide +kernel)⟩
theorem lw_p9 : lw_okq (⟨"MoorStones", "isWalker", "(I)Z"⟩, 10) := ⟨⟨by decide +kernel, by decide +kernel⟩, List.mem_of_getElem? (i := 17) (by decide +kernel), List.mem_of_getElem? (i := 394) (by decide +kernel), List.mem_of_getElem? (i := 395) (by decide +kernel)⟩
theorem lw_p10 : lw_okq (⟨"MoorStones", "stepsOf", "(I)I"⟩, 10) := ⟨⟨by decide +kernel, by decide +kernel⟩, List.mem_of_getElem? (i := 17) (by decide +kernel), List.mem_of_getElem? (i := 407) (by decide +kernel), List.mem_of_getElem? (i := 408) (by decide +kernel)⟩
theorem lw_p11 : lw_okq (⟨"MoorStones", "bearing", "()I"⟩, 10) := ⟨⟨by decide +kernel, by decide +kernel⟩, List.mem_of_getElem? (i := 17) (by decide +kernel), List.mem_of_getElem? (i := 411) (by decide +kernel), List.mem_of_getElem? (i := 412) (by decide +kernel)⟩
theorem lw_p12 : lw_okq (⟨"MoorStones", "goAndLay", "(II)I"⟩, 10) := ⟨⟨by decide +kernel, by decide +kernel⟩, List.mem_of_getElem? (i := 17) (by decide +kernel), List.mem_of_getElem? (i := 425) (by decide +kernel), List.mem_of_getElem? (i := 426) (by decide +kernel)⟩
theorem lw_p13 : lw_okq (⟨"MoorStones", "likedBy", "(I)I"⟩, 10) := ⟨⟨by decide +kernel, by decide +kernel⟩, List.mem_of_getElem? (i := 17) (by decide +kernel), List.mem_of_getElem? (i := 446) (by decide +kernel), List.mem_of_getElem? (i := 447) (by decide +kernel)⟩
theorem lw_p14 : lw_okq (⟨"MoorStones$Plans", "joinsAll", "(II)Z"⟩, 2) := ⟨⟨by decide +kernel, by decide +kernel⟩, List.mem_of_getElem? (i := 114) (by decide +kernel), List.mem_of_getElem? (i := 503) (by decide +kernel), List.mem_of_getElem? (i := 504) (by decide +kernel)⟩
theorem lw_p15 : lw_okq (⟨"MoorStones$Plans", "bestOfNext", "(II)I"⟩, 2) := ⟨⟨by decide +kernel, by decide +kernel⟩, List.mem_of_getElem? (i := 114) (by decide +kernel), List.mem_of_getElem? (i := 524) (by decide +kernel), List.mem_of_getElem? (i := 525) (by decide +kernel)⟩
def lw_privs_1 : List (MethodName × Nat) := [(⟨"MoorStones$Reader", "toNextToken", "()V"⟩, 5), (⟨"MoorStones$Reader", "sortOfDigits", "(I)I"⟩, 5), (⟨"MoorStones$Reader", "readItem", "(LMoorStones$Told;)Z"⟩, 5), (⟨"MoorStones$Reader", "isWord", "(Ljava/lang/String;)Z"⟩, 5), (⟨"MoorStones$Reader", "readRow", "(LMoorStones$Told;)Z"⟩, 5), (⟨"MoorStones$Reader", "readWalker", "(LMoorStones$Told;)Z"⟩, 5), (⟨"MoorStones$Reader", "isNumberTo", "(I)Z"⟩, 5), (⟨"MoorStones$Reader", "readSink", "(LMoorStones$Told;)Z"⟩, 5), (⟨"MoorStones", "isCell", "(I)Z"⟩, 10), (⟨"MoorStones", "isWalker", "(I)Z"⟩, 10), (⟨"MoorStones", "stepsOf", "(I)I"⟩, 10), (⟨"MoorStones", "bearing", "()I"⟩, 10), (⟨"MoorStones", "goAndLay", "(II)I"⟩, 10), (⟨"MoorStones", "likedBy", "(I)I"⟩, 10), (⟨"MoorStones$Plans", "joinsAll", "(II)Z"⟩, 2), (⟨"MoorStones$Plans", "bestOfNext", "(II)I"⟩, 2)]
theorem lw_r1 : ∀ q ∈ lw_privs_1, lw_okq q := List.forall_mem_cons.mpr ⟨lw_p0, List.forall_mem_cons.mpr ⟨lw_p1, List.forall_mem_cons.mpr ⟨lw_p2, List.forall_mem_cons.mpr ⟨lw_p3, List.forall_mem_cons.mpr ⟨lw_p4, List.forall_mem_cons.mpr ⟨lw_p5, List.forall_mem_cons.mpr ⟨lw_p6, List.forall_mem_cons.mpr ⟨lw_p7, List.forall_mem_cons.mpr ⟨lw_p8, List.forall_mem_cons.mpr ⟨lw_p9, List.forall_mem_cons.mpr ⟨lw_p10, List.forall_mem_cons.mpr ⟨lw_p11, List.forall_mem_cons.mpr ⟨lw_p12, List.forall_mem_cons.mpr ⟨lw_p13, List.forall_mem_cons.mpr ⟨lw_p14, List.forall_mem_cons.mpr ⟨lw_p15, fun _ h => absurd h List.not_mem_nil⟩⟩⟩⟩⟩⟩⟩⟩⟩⟩⟩⟩⟩⟩⟩⟩
theorem lw_p16 : lw_okq (⟨"MoorStones", "rateWalker", "(I)I"⟩, 10) := ⟨⟨by decide +kernel, by decide +kernel⟩, List.mem_of_getElem? (i := 17) (by decide +kernel), List.mem_of_getElem? (i := 549) (by decide +kernel), List.mem_of_getElem? (i := 550) (by decide +kernel)⟩
theorem lw_p17 : lw_okq (⟨"MoorStones", "ratePilgrim", "(I)I"⟩, 10) := ⟨⟨by decide +kernel, by decide +kernel⟩, List.mem_of_getElem? (i := 17) (by decide +kernel), List.mem_of_getElem? (i := 554) (by decide +kernel), List.mem_of_getElem? (i := 555) (by decide +kernel)⟩
theorem lw_p18 : lw_okq (⟨"MoorStones", "rateShepherd", "(I)I"⟩, 10) := ⟨⟨by decide +kernel, by decide +kernel⟩, List.mem_of_getElem? (i := 17) (by decide +kernel), List.mem_of_getElem? (i := 559) (by decide +kernel), List.mem_of_getElem? (i := 560) (by decide +kernel)⟩
theorem lw_p19 : lw_okq (⟨"MoorStones", "rateMonk", "(I)I"⟩, 10) := ⟨⟨by decide +kernel, by decide +kernel⟩, List.mem_of_getElem? (i := 17) (by decide +kernel), List.mem_of_getElem? (i := 564) (by decide +kernel), List.mem_of_getElem? (i := 565) (by decide +kernel)⟩
theorem lw_p20 : lw_okq (⟨"MoorStones", "rateThief", "(I)I"⟩, 10) := ⟨⟨by decide +kernel, by decide +kernel⟩, List.mem_of_getElem? (i := 17) (by decide +kernel), List.mem_of_getElem? (i := 569) (by decide +kernel), List.mem_of_getElem? (i := 570) (by decide +kernel)⟩
theorem lw_p21 : lw_okq (⟨"MoorStones", "rateChild", "(I)I"⟩, 10) := ⟨⟨by decide +kernel, by decide +kernel⟩, List.mem_of_getElem? (i := 17) (by decide +kernel), List.mem_of_getElem? (i := 574) (by decide +kernel), List.mem_of_getElem? (i := 575) (by decide +kernel)⟩
theorem lw_p22 : lw_okq (⟨"MoorStones", "imageOf", "(I)LMoorStones$Now;"⟩, 10) := ⟨⟨by decide +kernel, by decide +kernel⟩, List.mem_of_getElem? (i := 17) (by decide +kernel), List.mem_of_getElem? (i := 583) (by decide +kernel), List.mem_of_getElem? (i := 584) (by decide +kernel)⟩
theorem lw_p23 : lw_okq (⟨"MoorStonesModel", "reads", "()I"⟩, 27) := ⟨⟨by decide +kernel, by decide +kernel⟩, List.mem_of_getElem? (i := 604) (by decide +kernel), List.mem_of_getElem? (i := 709) (by decide +kernel), List.mem_of_getElem? (i := 710) (by decide +kernel)⟩
theorem lw_p24 : lw_okq (⟨"MoorStonesModel", "token", "()V"⟩, 27) := ⟨⟨by decide +kernel, by decide +kernel⟩, List.mem_of_getElem? (i := 604) (by decide +kernel), List.mem_of_getElem? (i := 713) (by decide +kernel), List.mem_of_getElem? (i := 714) (by decide +kernel)⟩
theorem lw_p25 : lw_okq (⟨"MoorStonesModel", "byteAt", "(I)I"⟩, 27) := ⟨⟨by decide +kernel, by decide +kernel⟩, List.mem_of_getElem? (i := 604) (by decide +kernel), List.mem_of_getElem? (i := 717) (by decide +kernel), List.mem_of_getElem? (i := 718) (by decide +kernel)⟩
theorem lw_p26 : lw_okq (⟨"MoorStonesModel", "verb", "()I"⟩, 27) := ⟨⟨by decide +kernel, by decide +kernel⟩, List.mem_of_getElem? (i := 604) (by decide +kernel), List.mem_of_getElem? (i := 724) (by decide +kernel), List.mem_of_getElem? (i := 725) (by decide +kernel)⟩
theorem lw_p27 : lw_okq (⟨"MoorStonesModel", "readsRow", "()Z"⟩, 27) := ⟨⟨by decide +kernel, by decide +kernel⟩, List.mem_of_getElem? (i := 604) (by decide +kernel), List.mem_of_getElem? (i := 732) (by decide +kernel), List.mem_of_getElem? (i := 733) (by decide +kernel)⟩
theorem lw_p28 : lw_okq (⟨"MoorStonesModel", "readsWalker", "()Z"⟩, 27) := ⟨⟨by decide +kernel, by decide +kernel⟩, List.mem_of_getElem? (i := 604) (by decide +kernel), List.mem_of_getElem? (i := 736) (by decide +kernel), List.mem_of_getElem? (i := 737) (by decide +kernel)⟩
theorem lw_p29 : lw_okq (⟨"MoorStonesModel", "number", "(I)I"⟩, 27) := ⟨⟨by decide +kernel, by decide +kernel⟩, List.mem_of_getElem? (i := 604) (by decide +kernel), List.mem_of_getElem? (i := 740) (by decide +kernel), List.mem_of_getElem? (i := 741) (by decide +kernel)⟩
theorem lw_p30 : lw_okq (⟨"MoorStonesModel", "readsSink", "()Z"⟩, 27) := ⟨⟨by decide +kernel, by decide +kernel⟩, List.mem_of_getElem? (i := 604) (by decide +kernel), List.mem_of_getElem? (i := 744) (by decide +kernel), List.mem_of_getElem? (i := 745) (by decide +kernel)⟩
theorem lw_p31 : lw_okq (⟨"MoorStonesModel", "begins", "()V"⟩, 27) := ⟨⟨by decide +kernel, by decide +kernel⟩, List.mem_of_getElem? (i := 604) (by decide +kernel), List.mem_of_getElem? (i := 748) (by decide +kernel), List.mem_of_getElem? (i := 749) (by decide +kernel)⟩
def lw_privs_2 : List (MethodName × Nat) := [(⟨"MoorStones", "rateWalker", "(I)I"⟩, 10), (⟨"MoorStones", "ratePilgrim", "(I)I"⟩, 10), (⟨"MoorStones", "rateShepherd", "(I)I"⟩, 10), (⟨"MoorStones", "rateMonk", "(I)I"⟩, 10), (⟨"MoorStones", "rateThief", "(I)I"⟩, 10), (⟨"MoorStones", "rateChild", "(I)I"⟩, 10), (⟨"MoorStones", "imageOf", "(I)LMoorStones$Now;"⟩, 10), (⟨"MoorStonesModel", "reads", "()I"⟩, 27), (⟨"MoorStonesModel", "token", "()V"⟩, 27), (⟨"MoorStonesModel", "byteAt", "(I)I"⟩, 27), (⟨"MoorStonesModel", "verb", "()I"⟩, 27), (⟨"MoorStonesModel", "readsRow", "()Z"⟩, 27), (⟨"MoorStonesModel", "readsWalker", "()Z"⟩, 27), (⟨"MoorStonesModel", "number", "(I)I"⟩, 27), (⟨"MoorStonesModel", "readsSink", "()Z"⟩, 27), (⟨"MoorStonesModel", "begins", "()V"⟩, 27)]
theorem lw_r2 : ∀ q ∈ lw_privs_2, lw_okq q := List.forall_mem_cons.mpr ⟨lw_p16, List.forall_mem_cons.mpr ⟨lw_p17, List.forall_mem_cons.mpr ⟨lw_p18, List.forall_mem_cons.mpr ⟨lw_p19, List.forall_mem_cons.mpr ⟨lw_p20, List.forall_mem_cons.mpr ⟨lw_p21, List.forall_mem_cons.mpr ⟨lw_p22, List.forall_mem_cons.mpr ⟨lw_p23, List.forall_mem_cons.mpr ⟨lw_p24, List.forall_mem_cons.mpr ⟨lw_p25, List.forall_mem_cons.mpr ⟨lw_p26, List.forall_mem_cons.mpr ⟨lw_p27, List.forall_mem_cons.mpr ⟨lw_p28, List.forall_mem_cons.mpr ⟨lw_p29, List.forall_mem_cons.mpr ⟨lw_p30, List.forall_mem_cons.mpr ⟨lw_p31, fun _ h => absurd h List.not_mem_nil⟩⟩⟩⟩⟩⟩⟩⟩⟩⟩⟩⟩⟩⟩⟩⟩
theorem lw_p32 : lw_okq (⟨"MoorStonesModel", "isCell", "(I)Z"⟩, 27) := ⟨⟨by decide +kernel, by decide +kernel⟩, List.mem_of_getElem? (i := 604) (by decide +kernel), List.mem_of_getElem? (i := 756) (by decide +kernel), List.mem_of_getElem? (i := 757) (by decide +kernel)⟩
theorem lw_p33 : lw_okq (⟨"MoorStonesModel", "isWalker", "(I)Z"⟩, 27) := ⟨⟨by decide +kernel, by decide +kernel⟩, List.mem_of_getElem? (i := 604) (by decide +kernel), List.mem_of_getElem? (i := 764) (by decide +kernel), List.mem_of_getElem? (i := 765) (by decide +kernel)⟩
theorem lw_p34 : lw_okq (⟨"MoorStonesModel", "laidBy", "(I)I"⟩, 27) := ⟨⟨by decide +kernel, by decide +kernel⟩, List.mem_of_getElem? (i := 604) (by decide +kernel), List.mem_of_getElem? (i := 768) (by decide +kernel), List.mem_of_getElem? (i := 769) (by decide +kernel)⟩
theorem lw_p35 : lw_okq (⟨"MoorStonesModel", "stepsOf", "(II)I"⟩, 27) := ⟨⟨by decide +kernel, by decide +kernel⟩, List.mem_of_getElem? (i := 604) (by decide +kernel), List.mem_of_getElem? (i := 776) (by decide +kernel), List.mem_of_getElem? (i := 777) (by decide +kernel)⟩
theorem lw_p36 : lw_okq (⟨"MoorStonesModel", "measures", "(I)V"⟩, 27) := ⟨⟨by decide +kernel, by decide +kernel⟩, List.mem_of_getElem? (i := 604) (by decide +kernel), List.mem_of_getElem? (i := 780) (by decide +kernel), List.mem_of_getElem? (i := 781) (by decide +kernel)⟩
theorem lw_p37 : lw_okq (⟨"MoorStonesModel", "isStep", "(II)Z"⟩, 27) := ⟨⟨by decide +kernel, by decide +kernel⟩, List.mem_of_getElem? (i := 604) (by decide +kernel), List.mem_of_getElem? (i := 784) (by decide +kernel), List.mem_of_getElem? (i := 785) (by decide +kernel)⟩
theorem lw_p38 : lw_okq (⟨"MoorStonesModel", "passesAndLays", "(II)V"⟩, 27) := ⟨⟨by decide +kernel, by decide +kernel⟩, List.mem_of_getElem? (i := 604) (by decide +kernel), List.mem_of_getElem? (i := 791) (by decide +kernel), List.mem_of_getElem? (i := 792) (by decide +kernel)⟩
theorem lw_p39 : lw_okq (⟨"MoorStonesModel", "onward", "(I)I"⟩, 27) := ⟨⟨by decide +kernel, by decide +kernel⟩, List.mem_of_getElem? (i := 604) (by decide +kernel), List.mem_of_getElem? (i := 795) (by decide +kernel), List.mem_of_getElem? (i := 796) (by decide +kernel)⟩
theorem lw_p40 : lw_okq (⟨"MoorStonesModel", "likesOf", "(I)I"⟩, 27) := ⟨⟨by decide +kernel, by decide +kernel⟩, List.mem_of_getElem? (i := 604) (by decide +kernel), List.mem_of_getElem? (i := 803) (by decide +kernel), List.mem_of_getElem? (i := 804) (by decide +kernel)⟩
theorem lw_p41 : lw_okq (⟨"MoorStonesModel", "many", "(I)I"⟩, 27) := ⟨⟨by decide +kernel, by decide +kernel⟩, List.mem_of_getElem? (i := 604) (by decide +kernel), List.mem_of_getElem? (i := 811) (by decide +kernel), List.mem_of_getElem? (i := 812) (by decide +kernel)⟩
theorem lw_p42 : lw_okq (⟨"MoorStonesModel", "passedInAll", "()I"⟩, 27) := ⟨⟨by decide +kernel, by decide +kernel⟩, List.mem_of_getElem? (i := 604) (by decide +kernel), List.mem_of_getElem? (i := 815) (by decide +kernel), List.mem_of_getElem? (i := 816) (by decide +kernel)⟩
theorem lw_p43 : lw_okq (⟨"MoorStonesModel", "costs", "(II)I"⟩, 27) := ⟨⟨by decide +kernel, by decide +kernel⟩, List.mem_of_getElem? (i := 604) (by decide +kernel), List.mem_of_getElem? (i := 835) (by decide +kernel), List.mem_of_getElem? (i := 836) (by decide +kernel)⟩
theorem lw_p44 : lw_okq (⟨"MoorStonesModel", "listsBogs", "()I"⟩, 27) := ⟨⟨by decide +kernel, by decide +kernel⟩, List.mem_of_getElem? (i := 604) (by decide +kernel), List.mem_of_getElem? (i := 843) (by decide +kernel), List.mem_of_getElem? (i := 844) (by decide +kernel)⟩
theorem lw_p45 : lw_okq (⟨"MoorStonesModel", "nears", "()V"⟩, 27) := ⟨⟨by decide +kernel, by decide +kernel⟩, List.mem_of_getElem? (i := 604) (by decide +kernel), List.mem_of_getElem? (i := 847) (by decide +kernel), List.mem_of_getElem? (i := 848) (by decide +kernel)⟩
theorem lw_p46 : lw_okq (⟨"MoorStonesModel", "joins", "(II)I"⟩, 27) := ⟨⟨by decide +kernel, by decide +kernel⟩, List.mem_of_getElem? (i := 604) (by decide +kernel), List.mem_of_getElem? (i := 851) (by decide +kernel), List.mem_of_getElem? (i := 852) (by decide +kernel)⟩
theorem lw_p47 : lw_okq (⟨"MoorStonesModel", "chosen", "(II)I"⟩, 27) := ⟨⟨by decide +kernel, by decide +kernel⟩, List.mem_of_getElem? (i := 604) (by decide +kernel), List.mem_of_getElem? (i := 855) (by decide +kernel), List.mem_of_getElem? (i := 856) (by decide +kernel)⟩
def lw_privs_3 : List (MethodName × Nat) := [(⟨"MoorStonesModel", "isCell", "(I)Z"⟩, 27), (⟨"MoorStonesModel", "isWalker", "(I)Z"⟩, 27), (⟨"MoorStonesModel", "laidBy", "(I)I"⟩, 27), (⟨"MoorStonesModel", "stepsOf", "(II)I"⟩, 27), (⟨"MoorStonesModel", "measures", "(I)V"⟩, 27), (⟨"MoorStonesModel", "isStep", "(II)Z"⟩, 27), (⟨"MoorStonesModel", "passesAndLays", "(II)V"⟩, 27), (⟨"MoorStonesModel", "onward", "(I)I"⟩, 27), (⟨"MoorStonesModel", "likesOf", "(I)I"⟩, 27), (⟨"MoorStonesModel", "many", "(I)I"⟩, 27), (⟨"MoorStonesModel", "passedInAll", "()I"⟩, 27), (⟨"MoorStonesModel", "costs", "(II)I"⟩, 27), (⟨"MoorStonesModel", "listsBogs", "()I"⟩, 27), (⟨"MoorStonesModel", "nears", "()V"⟩, 27), (⟨"MoorStonesModel", "joins", "(II)I"⟩, 27), (⟨"MoorStonesModel", "chosen", "(II)I"⟩, 27)]
theorem lw_r3 : ∀ q ∈ lw_privs_3, lw_okq q := List.forall_mem_cons.mpr ⟨lw_p32, List.forall_mem_cons.mpr ⟨lw_p33, List.forall_mem_cons.mpr ⟨lw_p34, List.forall_mem_cons.mpr ⟨lw_p35, List.forall_mem_cons.mpr ⟨lw_p36, List.forall_mem_cons.mpr ⟨lw_p37, List.forall_mem_cons.mpr ⟨lw_p38, List.forall_mem_cons.mpr ⟨lw_p39, List.forall_mem_cons.mpr ⟨lw_p40, List.forall_mem_cons.mpr ⟨lw_p41, List.forall_mem_cons.mpr ⟨lw_p42, List.forall_mem_cons.mpr ⟨lw_p43, List.forall_mem_cons.mpr ⟨lw_p44, List.forall_mem_cons.mpr ⟨lw_p45, List.forall_mem_cons.mpr ⟨lw_p46, List.forall_mem_cons.mpr ⟨lw_p47, fun _ h => absurd h List.not_mem_nil⟩⟩⟩⟩⟩⟩⟩⟩⟩⟩⟩⟩⟩⟩⟩⟩
theorem lw_p48 : lw_okq (⟨"MoorStonesModel", "bearing", "()I"⟩, 27) := ⟨⟨by decide +kernel, by decide +kernel⟩, List.mem_of_getElem? (i := 604) (by decide +kernel), List.mem_of_getElem? (i := 859) (by decide +kernel), List.mem_of_getElem? (i := 860) (by decide +kernel)⟩
theorem lw_p49 : lw_okq (⟨"MoorStonesModel", "reached", "(II)I"⟩, 27) := ⟨⟨by decide +kernel, by decide +kernel⟩, List.mem_of_getElem? (i := 604) (by decide +kernel), List.mem_of_getElem? (i := 866) (by decide +kernel), List.mem_of_getElem? (i := 867) (by decide +kernel)⟩
def lw_privs_4 : List (MethodName × Nat) := [(⟨"MoorStonesModel", "bearing", "()I"⟩, 27), (⟨"MoorStonesModel", "reached", "(II)I"⟩, 27)]
theorem lw_r4 : ∀ q ∈ lw_privs_4, lw_okq q := List.forall_mem_cons.mpr ⟨lw_p48, List.forall_mem_cons.mpr ⟨lw_p49, fun _ h => absurd h List.not_mem_nil⟩⟩
def lw_privs : List (MethodName × Nat) := lw_privs_1 ++ (lw_privs_2 ++ (lw_privs_3 ++ (lw_privs_4)))
def lw_tbl : List Cond := k2_sels lw_privs ++ tables_1
theorem lw_privs_ok : ∀ q ∈ lw_privs, lw_okq q := by
  show ∀ q ∈ lw_privs_1 ++ (lw_privs_2 ++ (lw_privs_3 ++ (lw_privs_4))), lw_okq q
  exact List.forall_mem_append.mpr ⟨lw_r1, List.forall_mem_append.mpr ⟨lw_r2, List.forall_mem_append.mpr ⟨lw_r3, lw_r4⟩⟩⟩
-- ===== end of PART A; then your names; then what follows =====
/-! ===== BEGIN words of one list among another's, by their places ===== -/
theorem goodIn_r {big : List Cond} (ws : List Cond) (ps : List Nat) (hp : ws = ps.filterMap (fun i => big[i]?)) (h : ws.all goodWord = true) : GoodIn big ws := by
  intro w hw
  have h1 := List.all_eq_true.mp h w hw
  rw [hp] at hw
  obtain ⟨i, -, hi⟩ := List.mem_filterMap.mp hw
  have hm : w ∈ big := by first | exact List.mem_of_getElem? hi | exact List.getElem?_mem hi
  exact ⟨hm, good_of_word h1⟩
theorem goodIn_app {big a b : List Cond} (ha : GoodIn big a) (hb : GoodIn big b) : GoodIn big (a ++ b) := fun w h => (List.mem_append.mp h).elim (ha w) (hb w)
theorem goodIn_ca {big a b : List Cond} {c : Cond} (ha : GoodIn big (c :: a)) (hb : GoodIn big b) : GoodIn big (c :: (a ++ b)) := fun w h => (List.mem_cons.mp h).elim (fun e => ha w (List.mem_cons.mpr (Or.inl e))) (fun h => (List.mem_append.mp h).elim (fun h => ha w (List.mem_cons.mpr (Or.inr h))) (hb w))
theorem goodIn_sub {big ws : List Cond} (hm : ∀ w ∈ ws, w ∈ big) (h : ws.all goodWord = true) : GoodIn big ws := fun w hw => ⟨hm w hw, good_of_word (List.all_eq_true.mp h w hw)⟩
/-! ===== END ===== -/

/-! ===== BEGIN printed: names, fields, word lists, decode rows ===== -/
def RX0 : String := "MoorStones$Now"
def TX0 : u_T := fun k => match k with
  | 0 => ("MoorStones$Now", "bog", "I", false)
  | 1 => ("MoorStones$Now", "stones", "I", false)
  | 2 => ("MoorStones$Now", "bears", "[I", true)
  | 3 => ("MoorStones$Now", "layers", "[I", true)
  | 4 => ("MoorStones$Now", "passed", "[I", true)
  | _ => ("MoorStones$Now", "isKept", "Z", false)
def tyX0 : Nat → FieldType := fun k => match k with
  | 0 => .int
  | 1 => .int
  | 2 => .array .int
  | 3 => .array .int
  | 4 => .array .int
  | _ => .boolean
abbrev wsX00 : List Cond := u_ws RX0 TX0 6
theorem nmX0 : ∀ a, a < 6 → ∀ b, b < 6 → a ≠ b → (TX0 a).2.1 ≠ (TX0 b).2.1 := by decide +kernel
theorem tyX0_ok : ∀ k, k < 6 → parseFieldDescriptor (TX0 k).2.2.1 = some (tyX0 k) := by decide +kernel
abbrev cX0_init : ByteArray := prog_2_method_1_code
def yX0_init : MethodName := ⟨RX0, "<init>", "()V"⟩
abbrev cX0_beginAsTold : ByteArray := prog_2_method_2_code
def yX0_beginAsTold : MethodName := ⟨RX0, "beginAsTold", "(LMoorStones$Told;)V"⟩
abbrev cX0_copy : ByteArray := prog_2_method_3_code
def yX0_copy : MethodName := ⟨RX0, "copy", "(LMoorStones$Now;)V"⟩
abbrev cX0_groundOf : ByteArray := prog_2_method_4_code
def yX0_groundOf : MethodName := ⟨RX0, "groundOf", "(I)I"⟩
abbrev cX0_laidBy : ByteArray := prog_2_method_5_code
def yX0_laidBy : MethodName := ⟨RX0, "laidBy", "(I)I"⟩
abbrev cX0_passedByAll : ByteArray := prog_2_method_6_code
def yX0_passedByAll : MethodName := ⟨RX0, "passedByAll", "()I"⟩
abbrev cX0_stepOn : ByteArray := prog_2_method_7_code
def yX0_stepOn : MethodName := ⟨RX0, "stepOn", "(I)V"⟩
abbrev cX0_lay : ByteArray := prog_2_method_8_code
def yX0_lay : MethodName := ⟨RX0, "lay", "(III)V"⟩
def RX1 : String := "MoorStones$Plans"
def TX1 : u_T := fun k => match k with
  | 0 => ("MoorStones$Plans", "ways", "LMoorStones$Ways;", true)
  | _ => ("MoorStones$Plans", "laidTill", "[I", true)
def tyX1 : Nat → FieldType := fun k => match k with
  | 0 => .object "MoorStones$Ways"
  | _ => .array .int
abbrev wsX10 : List Cond := u_ws RX1 TX1 2
theorem nmX1 : ∀ a, a < 2 → ∀ b, b < 2 → a ≠ b → (TX1 a).2.1 ≠ (TX1 b).2.1 := by decide +kernel
theorem tyX1_ok : ∀ k, k < 2 → parseFieldDescriptor (TX1 k).2.2.1 = some (tyX1 k) := by decide +kernel
abbrev cX1_init : ByteArray := prog_3_method_1_code
def yX1_init : MethodName := ⟨RX1, "<init>", "()V"⟩
abbrev cX1_bestToLay : ByteArray := prog_3_method_2_code
def yX1_bestToLay : MethodName := ⟨RX1, "bestToLay", "(IIII)I"⟩
abbrev cX1_leastJoining : ByteArray := prog_3_method_3_code
def yX1_leastJoining : MethodName := ⟨RX1, "leastJoining", "(III)I"⟩
abbrev cX1_joinsAll : ByteArray := prog_3_method_4_code
def yX1_joinsAll : MethodName := ⟨RX1, "joinsAll", "(II)Z"⟩
abbrev cX1_laidByTurns : ByteArray := prog_3_method_5_code
def yX1_laidByTurns : MethodName := ⟨RX1, "laidByTurns", "(IIII)I"⟩
abbrev cX1_bestOfNext : ByteArray := prog_3_method_6_code
def yX1_bestOfNext : MethodName := ⟨RX1, "bestOfNext", "(II)I"⟩
abbrev cX1_fewestApart : ByteArray := prog_3_method_7_code
def yX1_fewestApart : MethodName := ⟨RX1, "fewestApart", "(III)I"⟩
def RX2 : String := "MoorStones$Reader"
def TX2 : u_T := fun k => match k with
  | 0 => ("MoorStones$Reader", "text", "LMoorStones$Text;", true)
  | 1 => ("MoorStones$Reader", "start", "I", false)
  | 2 => ("MoorStones$Reader", "behind", "I", false)
  | 3 => ("MoorStones$Reader", "sort", "I", false)
  | _ => ("MoorStones$Reader", "number", "I", false)
def tyX2 : Nat → FieldType := fun k => match k with
  | 0 => .object "MoorStones$Text"
  | 1 => .int
  | 2 => .int
  | 3 => .int
  | _ => .int
abbrev wsX20 : List Cond := u_ws RX2 TX2 5
theorem nmX2 : ∀ a, a < 5 → ∀ b, b < 5 → a ≠ b → (TX2 a).2.1 ≠ (TX2 b).2.1 := by decide +kernel
theorem tyX2_ok : ∀ k, k < 5 → parseFieldDescriptor (TX2 k).2.2.1 = some (tyX2 k) := by decide +kernel
abbrev cX2_init : ByteArray := prog_4_method_1_code
def yX2_init : MethodName := ⟨RX2, "<init>", "()V"⟩
abbrev cX2_readInto : ByteArray := prog_4_method_2_code
def yX2_readInto : MethodName := ⟨RX2, "readInto", "(LMoorStones$Told;)I"⟩
abbrev cX2_readItem : ByteArray := prog_4_method_3_code
def yX2_readItem : MethodName := ⟨RX2, "readItem", "(LMoorStones$Told;)Z"⟩
abbrev cX2_readRow : ByteArray := prog_4_method_4_code
def yX2_readRow : MethodName := ⟨RX2, "readRow", "(LMoorStones$Told;)Z"⟩
abbrev cX2_readWalker : ByteArray := prog_4_method_5_code
def yX2_readWalker : MethodName := ⟨RX2, "readWalker", "(LMoorStones$Told;)Z"⟩
abbrev cX2_readSink : ByteArray := prog_4_method_6_code
def yX2_readSink : MethodName := ⟨RX2, "readSink", "(LMoorStones$Told;)Z"⟩
abbrev cX2_isNumberTo : ByteArray := prog_4_method_7_code
def yX2_isNumberTo : MethodName := ⟨RX2, "isNumberTo", "(I)Z"⟩
abbrev cX2_isWord : ByteArray := prog_4_method_8_code
def yX2_isWord : MethodName := ⟨RX2, "isWord", "(Ljava/lang/String;)Z"⟩
abbrev cX2_toNextToken : ByteArray := prog_4_method_9_code
def yX2_toNextToken : MethodName := ⟨RX2, "toNextToken", "()V"⟩
abbrev cX2_sortOfDigits : ByteArray := prog_4_method_10_code
def yX2_sortOfDigits : MethodName := ⟨RX2, "sortOfDigits", "(I)I"⟩
def RX3 : String := "MoorStones$Text"
def TX3 : u_T := fun k => match k with
  | 0 => ("MoorStones$Text", "bytes", "[I", true)
  | _ => ("MoorStones$Text", "length", "I", false)
def tyX3 : Nat → FieldType := fun k => match k with
  | 0 => .array .int
  | _ => .int
abbrev wsX30 : List Cond := u_ws RX3 TX3 2
theorem nmX3 : ∀ a, a < 2 → ∀ b, b < 2 → a ≠ b → (TX3 a).2.1 ≠ (TX3 b).2.1 := by decide +kernel
theorem tyX3_ok : ∀ k, k < 2 → parseFieldDescriptor (TX3 k).2.2.1 = some (tyX3 k) := by decide +kernel
abbrev cX3_init : ByteArray := prog_5_method_1_code
def yX3_init : MethodName := ⟨RX3, "<init>", "()V"⟩
abbrev cX3_add : ByteArray := prog_5_method_2_code
def yX3_add : MethodName := ⟨RX3, "add", "(I)V"⟩
abbrev cX3_empty : ByteArray := prog_5_method_3_code
def yX3_empty : MethodName := ⟨RX3, "empty", "()I"⟩
abbrev cX3_byteAt : ByteArray := prog_5_method_4_code
def yX3_byteAt : MethodName := ⟨RX3, "byteAt", "(I)I"⟩
abbrev cX3_behindRun : ByteArray := prog_5_method_5_code
def yX3_behindRun : MethodName := ⟨RX3, "behindRun", "(ICC)I"⟩
def RX4 : String := "MoorStones$Told"
def TX4 : u_T := fun k => match k with
  | 0 => ("MoorStones$Told", "wide", "I", false)
  | 1 => ("MoorStones$Told", "high", "I", false)
  | 2 => ("MoorStones$Told", "cells", "I", false)
  | 3 => ("MoorStones$Told", "bog", "I", false)
  | 4 => ("MoorStones$Told", "stones", "I", false)
  | 5 => ("MoorStones$Told", "sink", "I", false)
  | 6 => ("MoorStones$Told", "sinkTold", "Z", false)
  | 7 => ("MoorStones$Told", "walkers", "I", false)
  | 8 => ("MoorStones$Told", "from", "[I", true)
  | _ => ("MoorStones$Told", "to", "[I", true)
def tyX4 : Nat → FieldType := fun k => match k with
  | 0 => .int
  | 1 => .int
  | 2 => .int
  | 3 => .int
  | 4 => .int
  | 5 => .int
  | 6 => .boolean
  | 7 => .int
  | 8 => .array .int
  | _ => .array .int
abbrev wsX40 : List Cond := u_ws RX4 TX4 10
theorem nmX4 : ∀ a, a < 10 → ∀ b, b < 10 → a ≠ b → (TX4 a).2.1 ≠ (TX4 b).2.1 := by decide +kernel
theorem tyX4_ok : ∀ k, k < 10 → parseFieldDescriptor (TX4 k).2.2.1 = some (tyX4 k) := by decide +kernel
abbrev cX4_init : ByteArray := prog_6_method_1_code
def yX4_init : MethodName := ⟨RX4, "<init>", "()V"⟩
abbrev cX4_empty : ByteArray := prog_6_method_2_code
def yX4_empty : MethodName := ⟨RX4, "empty", "()V"⟩
abbrev cX4_copy : ByteArray := prog_6_method_3_code
def yX4_copy : MethodName := ⟨RX4, "copy", "(LMoorStones$Told;)V"⟩
abbrev cX4_takesRow : ByteArray := prog_6_method_4_code
def yX4_takesRow : MethodName := ⟨RX4, "takesRow", "()Z"⟩
abbrev cX4_beginRow : ByteArray := prog_6_method_5_code
def yX4_beginRow : MethodName := ⟨RX4, "beginRow", "(I)Z"⟩
abbrev cX4_addCell : ByteArray := prog_6_method_6_code
def yX4_addCell : MethodName := ⟨RX4, "addCell", "(I)Z"⟩
abbrev cX4_addWalker : ByteArray := prog_6_method_7_code
def yX4_addWalker : MethodName := ⟨RX4, "addWalker", "(II)V"⟩
def RX5 : String := "MoorStones$Ways"
def TX5 : u_T := fun k => match k with
  | 0 => ("MoorStones$Ways", "wide", "I", false)
  | 1 => ("MoorStones$Ways", "all", "I", false)
  | 2 => ("MoorStones$Ways", "firstColumn", "I", false)
  | _ => ("MoorStones$Ways", "lastColumn", "I", false)
def tyX5 : Nat → FieldType := fun k => match k with
  | 0 => .int
  | 1 => .int
  | 2 => .int
  | _ => .int
abbrev wsX50 : List Cond := u_ws RX5 TX5 4
theorem nmX5 : ∀ a, a < 4 → ∀ b, b < 4 → a ≠ b → (TX5 a).2.1 ≠ (TX5 b).2.1 := by decide +kernel
theorem tyX5_ok : ∀ k, k < 4 → parseFieldDescriptor (TX5 k).2.2.1 = some (tyX5 k) := by decide +kernel
abbrev cX5_init : ByteArray := prog_7_method_1_code
def yX5_init : MethodName := ⟨RX5, "<init>", "()V"⟩
abbrev cX5_measure : ByteArray := prog_7_method_2_code
def yX5_measure : MethodName := ⟨RX5, "measure", "(II)V"⟩
abbrev cX5_near : ByteArray := prog_7_method_3_code
def yX5_near : MethodName := ⟨RX5, "near", "(I)I"⟩
abbrev cX5_spread : ByteArray := prog_7_method_4_code
def yX5_spread : MethodName := ⟨RX5, "spread", "(II)I"⟩
abbrev cX5_joins : ByteArray := prog_7_method_5_code
def yX5_joins : MethodName := ⟨RX5, "joins", "(III)Z"⟩
abbrev cX5_fewestSteps : ByteArray := prog_7_method_6_code
def yX5_fewestSteps : MethodName := ⟨RX5, "fewestSteps", "(III)I"⟩
abbrev cX5_nextCell : ByteArray := prog_7_method_7_code
def yX5_nextCell : MethodName := ⟨RX5, "nextCell", "(III)I"⟩
abbrev cX5_fewestStones : ByteArray := prog_7_method_8_code
def yX5_fewestStones : MethodName := ⟨RX5, "fewestStones", "(III)I"⟩
def RX6 : String := "MoorStones"
def TX6 : u_T := fun k => match k with
  | 0 => ("MoorStones", "reader", "LMoorStones$Reader;", true)
  | 1 => ("MoorStones", "text", "LMoorStones$Text;", true)
  | 2 => ("MoorStones", "told", "LMoorStones$Told;", true)
  | 3 => ("MoorStones", "draft", "LMoorStones$Told;", true)
  | 4 => ("MoorStones", "plans", "LMoorStones$Plans;", true)
  | 5 => ("MoorStones", "ways", "LMoorStones$Ways;", true)
  | 6 => ("MoorStones", "current", "LMoorStones$Now;", true)
  | 7 => ("MoorStones", "imageZero", "LMoorStones$Now;", true)
  | 8 => ("MoorStones", "imageOne", "LMoorStones$Now;", true)
  | _ => ("MoorStones", "traced", "J", false)
def tyX6 : Nat → FieldType := fun k => match k with
  | 0 => .object "MoorStones$Reader"
  | 1 => .object "MoorStones$Text"
  | 2 => .object "MoorStones$Told"
  | 3 => .object "MoorStones$Told"
  | 4 => .object "MoorStones$Plans"
  | 5 => .object "MoorStones$Ways"
  | 6 => .object "MoorStones$Now"
  | 7 => .object "MoorStones$Now"
  | 8 => .object "MoorStones$Now"
  | _ => .long
abbrev wsX60 : List Cond := u_ws RX6 TX6 10
theorem nmX6 : ∀ a, a < 10 → ∀ b, b < 10 → a ≠ b → (TX6 a).2.1 ≠ (TX6 b).2.1 := by decide +kernel
theorem tyX6_ok : ∀ k, k < 10 → parseFieldDescriptor (TX6 k).2.2.1 = some (tyX6 k) := by decide +kernel
abbrev cX6_init : ByteArray := prog_1_method_1_code
def yX6_init : MethodName := ⟨RX6, "<init>", "()V"⟩
abbrev cX6_type : ByteArray := prog_1_method_2_code
def yX6_type : MethodName := ⟨RX6, "type", "(JI)I"⟩
abbrev cX6_clear : ByteArray := prog_1_method_3_code
def yX6_clear : MethodName := ⟨RX6, "clear", "()I"⟩
abbrev cX6_moor : ByteArray := prog_1_method_4_code
def yX6_moor : MethodName := ⟨RX6, "moor", "()I"⟩
abbrev cX6_cell : ByteArray := prog_1_method_5_code
def yX6_cell : MethodName := ⟨RX6, "cell", "(II)I"⟩
abbrev cX6_walker : ByteArray := prog_1_method_6_code
def yX6_walker : MethodName := ⟨RX6, "walker", "(II)I"⟩
abbrev cX6_passes : ByteArray := prog_1_method_7_code
def yX6_passes : MethodName := ⟨RX6, "passes", "(II)I"⟩
abbrev cX6_days : ByteArray := prog_1_method_8_code
def yX6_days : MethodName := ⟨RX6, "days", "(I)I"⟩
abbrev cX6_now : ByteArray := prog_1_method_9_code
def yX6_now : MethodName := ⟨RX6, "now", "(I)I"⟩
abbrev cX6_anew : ByteArray := prog_1_method_10_code
def yX6_anew : MethodName := ⟨RX6, "anew", "()I"⟩
abbrev cX6_steps : ByteArray := prog_1_method_11_code
def yX6_steps : MethodName := ⟨RX6, "steps", "(II)I"⟩
abbrev cX6_way : ByteArray := prog_1_method_12_code
def yX6_way : MethodName := ⟨RX6, "way", "(III)I"⟩
abbrev cX6_stones : ByteArray := prog_1_method_13_code
def yX6_stones : MethodName := ⟨RX6, "stones", "(II)I"⟩
abbrev cX6_joined : ByteArray := prog_1_method_14_code
def yX6_joined : MethodName := ⟨RX6, "joined", "(II)I"⟩
abbrev cX6_likes : ByteArray := prog_1_method_15_code
def yX6_likes : MethodName := ⟨RX6, "likes", "(I)I"⟩
abbrev cX6_byTurns : ByteArray := prog_1_method_16_code
def yX6_byTurns : MethodName := ⟨RX6, "byTurns", "(II)I"⟩
abbrev cX6_apart : ByteArray := prog_1_method_17_code
def yX6_apart : MethodName := ⟨RX6, "apart", "(II)I"⟩
abbrev cX6_rate : ByteArray := prog_1_method_18_code
def yX6_rate : MethodName := ⟨RX6, "rate", "(II)I"⟩
abbrev cX6_keep : ByteArray := prog_1_method_19_code
def yX6_keep : MethodName := ⟨RX6, "keep", "(I)I"⟩
abbrev cX6_back : ByteArray := prog_1_method_20_code
def yX6_back : MethodName := ⟨RX6, "back", "(I)I"⟩
abbrev cX6_count : ByteArray := prog_1_method_21_code
def yX6_count : MethodName := ⟨RX6, "count", "(I)I"⟩
abbrev cX6_trace : ByteArray := prog_1_method_22_code
def yX6_trace : MethodName := ⟨RX6, "trace", "()J"⟩
abbrev cX6_isCell : ByteArray := prog_1_method_23_code
def yX6_isCell : MethodName := ⟨RX6, "isCell", "(I)Z"⟩
abbrev cX6_isWalker : ByteArray := prog_1_method_24_code
def yX6_isWalker : MethodName := ⟨RX6, "isWalker", "(I)Z"⟩
abbrev cX6_imageOf : ByteArray := prog_1_method_25_code
def yX6_imageOf : MethodName := ⟨RX6, "imageOf", "(I)LMoorStones$Now;"⟩
abbrev cX6_bearing : ByteArray := prog_1_method_26_code
def yX6_bearing : MethodName := ⟨RX6, "bearing", "()I"⟩
abbrev cX6_stepsOf : ByteArray := prog_1_method_27_code
def yX6_stepsOf : MethodName := ⟨RX6, "stepsOf", "(I)I"⟩
abbrev cX6_likedBy : ByteArray := prog_1_method_28_code
def yX6_likedBy : MethodName := ⟨RX6, "likedBy", "(I)I"⟩
abbrev cX6_goAndLay : ByteArray := prog_1_method_29_code
def yX6_goAndLay : MethodName := ⟨RX6, "goAndLay", "(II)I"⟩
abbrev cX6_rateWalker : ByteArray := prog_1_method_30_code
def yX6_rateWalker : MethodName := ⟨RX6, "rateWalker", "(I)I"⟩
abbrev cX6_ratePilgrim : ByteArray := prog_1_method_31_code
def yX6_ratePilgrim : MethodName := ⟨RX6, "ratePilgrim", "(I)I"⟩
abbrev cX6_rateShepherd : ByteArray := prog_1_method_32_code
def yX6_rateShepherd : MethodName := ⟨RX6, "rateShepherd", "(I)I"⟩
abbrev cX6_rateMonk : ByteArray := prog_1_method_33_code
def yX6_rateMonk : MethodName := ⟨RX6, "rateMonk", "(I)I"⟩
abbrev cX6_rateThief : ByteArray := prog_1_method_34_code
def yX6_rateThief : MethodName := ⟨RX6, "rateThief", "(I)I"⟩
abbrev cX6_rateChild : ByteArray := prog_1_method_35_code
def yX6_rateChild : MethodName := ⟨RX6, "rateChild", "(I)I"⟩
abbrev cX6_at : ByteArray := prog_1_method_36_code
def yX6_at : MethodName := ⟨RX6, "at", "([II)I"⟩
abbrev cX6_put : ByteArray := prog_1_method_37_code
def yX6_put : MethodName := ⟨RX6, "put", "([III)V"⟩
abbrev cX6_copyRow : ByteArray := prog_1_method_38_code
def yX6_copyRow : MethodName := ⟨RX6, "copyRow", "([I[I)V"⟩
abbrev cX6_has : ByteArray := prog_1_method_39_code
def yX6_has : MethodName := ⟨RX6, "has", "(II)Z"⟩
def RX7 : String := "MoorStonesModel"
def TX7 : u_T := fun k => match k with
  | 0 => ("MoorStonesModel", "thrown", "I", false)
  | 1 => ("MoorStonesModel", "trace", "J", false)
  | 2 => ("MoorStonesModel", "text", "[I", true)
  | 3 => ("MoorStonesModel", "typed", "I", false)
  | 4 => ("MoorStonesModel", "told", "[I", true)
  | 5 => ("MoorStonesModel", "draft", "[I", true)
  | 6 => ("MoorStonesModel", "ends", "[I", true)
  | 7 => ("MoorStonesModel", "draftEnds", "[I", true)
  | 8 => ("MoorStonesModel", "wide", "I", false)
  | 9 => ("MoorStonesModel", "high", "I", false)
  | 10 => ("MoorStonesModel", "walkers", "I", false)
  | 11 => ("MoorStonesModel", "sink", "I", false)
  | 12 => ("MoorStonesModel", "draftWide", "I", false)
  | 13 => ("MoorStonesModel", "draftHigh", "I", false)
  | 14 => ("MoorStonesModel", "draftWalkers", "I", false)
  | 15 => ("MoorStonesModel", "draftSink", "I", false)
  | 16 => ("MoorStonesModel", "s", "[I", true)
  | 17 => ("MoorStonesModel", "images", "[I", true)
  | 18 => ("MoorStonesModel", "kept", "[Z", true)
  | 19 => ("MoorStonesModel", "at", "I", false)
  | 20 => ("MoorStonesModel", "sort", "I", false)
  | 21 => ("MoorStonesModel", "start", "I", false)
  | 22 => ("MoorStonesModel", "size", "I", false)
  | 23 => ("MoorStonesModel", "far", "[I", true)
  | 24 => ("MoorStonesModel", "bogs", "[I", true)
  | 25 => ("MoorStonesModel", "near", "[I", true)
  | _ => ("MoorStonesModel", "worth", "[I", true)
def tyX7 : Nat → FieldType := fun k => match k with
  | 0 => .int
  | 1 => .long
  | 2 => .array .int
  | 3 => .int
  | 4 => .array .int
  | 5 => .array .int
  | 6 => .array .int
  | 7 => .array .int
  | 8 => .int
  | 9 => .int
  | 10 => .int
  | 11 => .int
  | 12 => .int
  | 13 => .int
  | 14 => .int
  | 15 => .int
  | 16 => .array .int
  | 17 => .array .int
  | 18 => .array .boolean
  | 19 => .int
  | 20 => .int
  | 21 => .int
  | 22 => .int
  | 23 => .array .int
  | 24 => .array .int
  | 25 => .array .int
  | _ => .array .int
abbrev wsX70 : List Cond := u_ws RX7 TX7 27
theorem nmX7 : ∀ a, a < 27 → ∀ b, b < 27 → a ≠ b → (TX7 a).2.1 ≠ (TX7 b).2.1 := by decide +kernel
theorem tyX7_ok : ∀ k, k < 27 → parseFieldDescriptor (TX7 k).2.2.1 = some (tyX7 k) := by decide +kernel
abbrev cX7_init : ByteArray := prog_9_method_1_code
def yX7_init : MethodName := ⟨RX7, "<init>", "()V"⟩
abbrev cX7_in : ByteArray := prog_9_method_3_code
def yX7_in : MethodName := ⟨RX7, "in", "(III)Z"⟩
abbrev cX7_isCell : ByteArray := prog_9_method_4_code
def yX7_isCell : MethodName := ⟨RX7, "isCell", "(I)Z"⟩
abbrev cX7_isWalker : ByteArray := prog_9_method_5_code
def yX7_isWalker : MethodName := ⟨RX7, "isWalker", "(I)Z"⟩
abbrev cX7_type : ByteArray := prog_9_method_6_code
def yX7_type : MethodName := ⟨RX7, "type", "(JI)I"⟩
abbrev cX7_clear : ByteArray := prog_9_method_7_code
def yX7_clear : MethodName := ⟨RX7, "clear", "()I"⟩
abbrev cX7_byteAt : ByteArray := prog_9_method_8_code
def yX7_byteAt : MethodName := ⟨RX7, "byteAt", "(I)I"⟩
abbrev cX7_sortOf : ByteArray := prog_9_method_9_code
def yX7_sortOf : MethodName := ⟨RX7, "sortOf", "(I)I"⟩
abbrev cX7_token : ByteArray := prog_9_method_10_code
def yX7_token : MethodName := ⟨RX7, "token", "()V"⟩
abbrev cX7_verb : ByteArray := prog_9_method_11_code
def yX7_verb : MethodName := ⟨RX7, "verb", "()I"⟩
abbrev cX7_number : ByteArray := prog_9_method_12_code
def yX7_number : MethodName := ⟨RX7, "number", "(I)I"⟩
abbrev cX7_readsRow : ByteArray := prog_9_method_13_code
def yX7_readsRow : MethodName := ⟨RX7, "readsRow", "()Z"⟩
abbrev cX7_readsWalker : ByteArray := prog_9_method_14_code
def yX7_readsWalker : MethodName := ⟨RX7, "readsWalker", "()Z"⟩
abbrev cX7_readsSink : ByteArray := prog_9_method_15_code
def yX7_readsSink : MethodName := ⟨RX7, "readsSink", "()Z"⟩
abbrev cX7_reads : ByteArray := prog_9_method_16_code
def yX7_reads : MethodName := ⟨RX7, "reads", "()I"⟩
abbrev cX7_begins : ByteArray := prog_9_method_17_code
def yX7_begins : MethodName := ⟨RX7, "begins", "()V"⟩
abbrev cX7_moor : ByteArray := prog_9_method_18_code
def yX7_moor : MethodName := ⟨RX7, "moor", "()I"⟩
abbrev cX7_cell : ByteArray := prog_9_method_19_code
def yX7_cell : MethodName := ⟨RX7, "cell", "(II)I"⟩
abbrev cX7_laidBy : ByteArray := prog_9_method_20_code
def yX7_laidBy : MethodName := ⟨RX7, "laidBy", "(I)I"⟩
abbrev cX7_walker : ByteArray := prog_9_method_21_code
def yX7_walker : MethodName := ⟨RX7, "walker", "(II)I"⟩
abbrev cX7_apartBy : ByteArray := prog_9_method_22_code
def yX7_apartBy : MethodName := ⟨RX7, "apartBy", "(II)I"⟩
abbrev cX7_isStep : ByteArray := prog_9_method_23_code
def yX7_isStep : MethodName := ⟨RX7, "isStep", "(II)Z"⟩
abbrev cX7_measures : ByteArray := prog_9_method_24_code
def yX7_measures : MethodName := ⟨RX7, "measures", "(I)V"⟩
abbrev cX7_onward : ByteArray := prog_9_method_25_code
def yX7_onward : MethodName := ⟨RX7, "onward", "(I)I"⟩
abbrev cX7_stepsOf : ByteArray := prog_9_method_26_code
def yX7_stepsOf : MethodName := ⟨RX7, "stepsOf", "(II)I"⟩
abbrev cX7_passesAndLays : ByteArray := prog_9_method_27_code
def yX7_passesAndLays : MethodName := ⟨RX7, "passesAndLays", "(II)V"⟩
abbrev cX7_passes : ByteArray := prog_9_method_28_code
def yX7_passes : MethodName := ⟨RX7, "passes", "(II)I"⟩
abbrev cX7_likesOf : ByteArray := prog_9_method_29_code
def yX7_likesOf : MethodName := ⟨RX7, "likesOf", "(I)I"⟩
abbrev cX7_days : ByteArray := prog_9_method_30_code
def yX7_days : MethodName := ⟨RX7, "days", "(I)I"⟩
abbrev cX7_passedInAll : ByteArray := prog_9_method_31_code
def yX7_passedInAll : MethodName := ⟨RX7, "passedInAll", "()I"⟩
abbrev cX7_many : ByteArray := prog_9_method_32_code
def yX7_many : MethodName := ⟨RX7, "many", "(I)I"⟩
abbrev cX7_now : ByteArray := prog_9_method_33_code
def yX7_now : MethodName := ⟨RX7, "now", "(I)I"⟩
abbrev cX7_anew : ByteArray := prog_9_method_34_code
def yX7_anew : MethodName := ⟨RX7, "anew", "()I"⟩
abbrev cX7_steps : ByteArray := prog_9_method_35_code
def yX7_steps : MethodName := ⟨RX7, "steps", "(II)I"⟩
abbrev cX7_way : ByteArray := prog_9_method_36_code
def yX7_way : MethodName := ⟨RX7, "way", "(III)I"⟩
abbrev cX7_costs : ByteArray := prog_9_method_37_code
def yX7_costs : MethodName := ⟨RX7, "costs", "(II)I"⟩
abbrev cX7_stones : ByteArray := prog_9_method_38_code
def yX7_stones : MethodName := ⟨RX7, "stones", "(II)I"⟩
abbrev cX7_bearing : ByteArray := prog_9_method_39_code
def yX7_bearing : MethodName := ⟨RX7, "bearing", "()I"⟩
abbrev cX7_listsBogs : ByteArray := prog_9_method_40_code
def yX7_listsBogs : MethodName := ⟨RX7, "listsBogs", "()I"⟩
abbrev cX7_chosen : ByteArray := prog_9_method_41_code
def yX7_chosen : MethodName := ⟨RX7, "chosen", "(II)I"⟩
abbrev cX7_nears : ByteArray := prog_9_method_42_code
def yX7_nears : MethodName := ⟨RX7, "nears", "()V"⟩
abbrev cX7_reached : ByteArray := prog_9_method_43_code
def yX7_reached : MethodName := ⟨RX7, "reached", "(II)I"⟩
abbrev cX7_ones : ByteArray := prog_9_method_44_code
def yX7_ones : MethodName := ⟨RX7, "ones", "(I)I"⟩
abbrev cX7_joins : ByteArray := prog_9_method_45_code
def yX7_joins : MethodName := ⟨RX7, "joins", "(II)I"⟩
abbrev cX7_joined : ByteArray := prog_9_method_46_code
def yX7_joined : MethodName := ⟨RX7, "joined", "(II)I"⟩
abbrev cX7_likes : ByteArray := prog_9_method_47_code
def yX7_likes : MethodName := ⟨RX7, "likes", "(I)I"⟩
abbrev cX7_byTurns : ByteArray := prog_9_method_48_code
def yX7_byTurns : MethodName := ⟨RX7, "byTurns", "(II)I"⟩
abbrev cX7_apart : ByteArray := prog_9_method_49_code
def yX7_apart : MethodName := ⟨RX7, "apart", "(II)I"⟩
abbrev cX7_rate : ByteArray := prog_9_method_50_code
def yX7_rate : MethodName := ⟨RX7, "rate", "(II)I"⟩
abbrev cX7_keep : ByteArray := prog_9_method_51_code
def yX7_keep : MethodName := ⟨RX7, "keep", "(I)I"⟩
abbrev cX7_back : ByteArray := prog_9_method_52_code
def yX7_back : MethodName := ⟨RX7, "back", "(I)I"⟩
abbrev cX7_count : ByteArray := prog_9_method_53_code
def yX7_count : MethodName := ⟨RX7, "count", "(I)I"⟩
abbrev cX7_trace : ByteArray := prog_9_method_54_code
def yX7_trace : MethodName := ⟨RX7, "trace", "()J"⟩
def RJ6 : String := "java/lang/Integer"
def TJ6 : u_T := fun k => match k with
  | _ => ("", "", "", false)
def tyJ6 : Nat → FieldType := fun k => match k with
  | _ => .int
abbrev wsJ60 : List Cond := u_ws RJ6 TJ6 0
theorem nmJ6 : ∀ a, a < 0 → ∀ b, b < 0 → a ≠ b → (TJ6 a).2.1 ≠ (TJ6 b).2.1 := by decide +kernel
theorem tyJ6_ok : ∀ k, k < 0 → parseFieldDescriptor (TJ6 k).2.2.1 = some (tyJ6 k) := by decide +kernel
abbrev cJ6_bitCount_0f7a4 : ByteArray := prog_10_method_49_code
def yJ6_bitCount_0f7a4 : MethodName := ⟨RJ6, "bitCount", "(I)I"⟩
def RJ9 : String := "java/lang/Math"
def TJ9 : u_T := fun k => match k with
  | _ => ("", "", "", false)
def tyJ9 : Nat → FieldType := fun k => match k with
  | _ => .int
abbrev wsJ90 : List Cond := u_ws RJ9 TJ9 0
theorem nmJ9 : ∀ a, a < 0 → ∀ b, b < 0 → a ≠ b → (TJ9 a).2.1 ≠ (TJ9 b).2.1 := by decide +kernel
theorem tyJ9_ok : ∀ k, k < 0 → parseFieldDescriptor (TJ9 k).2.2.1 = some (tyJ9 k) := by decide +kernel
abbrev cJ9_max_7cf53 : ByteArray := prog_11_method_65_code
def yJ9_max_7cf53 : MethodName := ⟨RJ9, "max", "(II)I"⟩
abbrev cJ9_min_7cf53 : ByteArray := prog_11_method_69_code
def yJ9_min_7cf53 : MethodName := ⟨RJ9, "min", "(II)I"⟩
def RJ0 : String := "java/lang/String"
def TJ0 : u_T := fun k => match k with
  | _ => ("", "", "", false)
def tyJ0 : Nat → FieldType := fun k => match k with
  | _ => .int
abbrev wsJ00 : List Cond := u_ws RJ0 TJ0 0
theorem nmJ0 : ∀ a, a < 0 → ∀ b, b < 0 → a ≠ b → (TJ0 a).2.1 ≠ (TJ0 b).2.1 := by decide +kernel
theorem tyJ0_ok : ∀ k, k < 0 → parseFieldDescriptor (TJ0 k).2.2.1 = some (tyJ0 k) := by decide +kernel
abbrev cJ0_length_8abf5 : ByteArray := prog_12_method_54_code
def yJ0_length_8abf5 : MethodName := ⟨RJ0, "length", "()I"⟩
abbrev cJ0_charAt_5068e : ByteArray := prog_12_method_56_code
def yJ0_charAt_5068e : MethodName := ⟨RJ0, "charAt", "(I)C"⟩
abbrev cJ0_coder_7d493 : ByteArray := prog_12_method_152_code
def yJ0_coder_7d493 : MethodName := ⟨RJ0, "coder", "()B"⟩
abbrev cJ0_isLatin1_aae02 : ByteArray := prog_12_method_154_code
def yJ0_isLatin1_aae02 : MethodName := ⟨RJ0, "isLatin1", "()Z"⟩
abbrev cJ0_checkIndex_df160 : ByteArray := prog_12_method_155_code
def yJ0_checkIndex_df160 : MethodName := ⟨RJ0, "checkIndex", "(II)V"⟩
def RJ1 : String := "java/lang/StringLatin1"
def TJ1 : u_T := fun k => match k with
  | _ => ("", "", "", false)
def tyJ1 : Nat → FieldType := fun k => match k with
  | _ => .int
abbrev wsJ10 : List Cond := u_ws RJ1 TJ1 0
theorem nmJ1 : ∀ a, a < 0 → ∀ b, b < 0 → a ≠ b → (TJ1 a).2.1 ≠ (TJ1 b).2.1 := by decide +kernel
theorem tyJ1_ok : ∀ k, k < 0 → parseFieldDescriptor (TJ1 k).2.2.1 = some (tyJ1 k) := by decide +kernel
abbrev cJ1_charAt_3b067 : ByteArray := prog_13_method_2_code
def yJ1_charAt_3b067 : MethodName := ⟨RJ1, "charAt", "([BI)C"⟩
def RJ2 : String := "java/lang/StringUTF16"
def TJ2 : u_T := fun k => match k with
  | _ => ("", "", "", false)
def tyJ2 : Nat → FieldType := fun k => match k with
  | _ => .int
abbrev wsJ20 : List Cond := u_ws RJ2 TJ2 0
theorem nmJ2 : ∀ a, a < 0 → ∀ b, b < 0 → a ≠ b → (TJ2 a).2.1 ≠ (TJ2 b).2.1 := by decide +kernel
theorem tyJ2_ok : ∀ k, k < 0 → parseFieldDescriptor (TJ2 k).2.2.1 = some (tyJ2 k) := by decide +kernel
abbrev cJ2_getChar_3b067 : ByteArray := prog_14_method_5_code
def yJ2_getChar_3b067 : MethodName := ⟨RJ2, "getChar", "([BI)C"⟩
abbrev cJ2_length_9d52b : ByteArray := prog_14_method_6_code
def yJ2_length_9d52b : MethodName := ⟨RJ2, "length", "([B)I"⟩
abbrev cJ2_charAt_3b067 : ByteArray := prog_14_method_83_code
def yJ2_charAt_3b067 : MethodName := ⟨RJ2, "charAt", "([BI)C"⟩
abbrev cJ2_checkIndex_2214a : ByteArray := prog_14_method_91_code
def yJ2_checkIndex_2214a : MethodName := ⟨RJ2, "checkIndex", "(I[B)V"⟩
def RJ10 : String := "java/lang/System"
def TJ10 : u_T := fun k => match k with
  | _ => ("", "", "", false)
def tyJ10 : Nat → FieldType := fun k => match k with
  | _ => .int
abbrev wsJ100 : List Cond := u_ws RJ10 TJ10 0
theorem nmJ10 : ∀ a, a < 0 → ∀ b, b < 0 → a ≠ b → (TJ10 a).2.1 ≠ (TJ10 b).2.1 := by decide +kernel
theorem tyJ10_ok : ∀ k, k < 0 → parseFieldDescriptor (TJ10 k).2.2.1 = some (tyJ10 k) := by decide +kernel
def RJ3 : String := "jdk/internal/util/Preconditions"
def TJ3 : u_T := fun k => match k with
  | _ => ("", "", "", false)
def tyJ3 : Nat → FieldType := fun k => match k with
  | _ => .int
abbrev wsJ30 : List Cond := u_ws RJ3 TJ3 0
theorem nmJ3 : ∀ a, a < 0 → ∀ b, b < 0 → a ≠ b → (TJ3 a).2.1 ≠ (TJ3 b).2.1 := by decide +kernel
theorem tyJ3_ok : ∀ k, k < 0 → parseFieldDescriptor (TJ3 k).2.2.1 = some (tyJ3 k) := by decide +kernel
abbrev cJ3_checkIndex_8e157 : ByteArray := prog_16_method_11_code
def yJ3_checkIndex_8e157 : MethodName := ⟨RJ3, "checkIndex", "(IILjava/util/function/BiFunction;)I"⟩
def RL : String := "MoorStonesLaw"
abbrev cL_law : ByteArray := code
def yL_law : MethodName := ⟨RL, "law", "([I)Z"⟩
def wsL_law_r1 : List Cond := [Cond.classLink RL 7 RX6, Cond.instantiable RX6 10, Cond.initialized RX6, Cond.classLink RL 10 RX7, Cond.instantiable RX7 27, Cond.initialized RX7, Cond.constantLong RL 13 (4294967295), Cond.methodLink RL 9 yX6_init, Cond.instanceMethod yX6_init, Cond.code yX6_init cX6_init 1 none, Cond.methodLink RX6 1 objectInit, Cond.instanceMethod objectInit, Cond.code objectInit ⟨#[0xb1]⟩ 1 none, Cond.classLink RX6 7 RX2, Cond.instantiable RX2 5, Cond.initialized RX2, Cond.fieldLink RX6 10 "MoorStones" "reader" "LMoorStones$Reader;", Cond.fieldLink RX6 20 "MoorStones" "text" "LMoorStones$Text;", Cond.classLink RX6 21 RX4, Cond.instantiable RX4 10, Cond.initialized RX4, Cond.fieldLink RX6 24 "MoorStones" "told" "LMoorStones$Told;", Cond.fieldLink RX6 28 "MoorStones" "draft" "LMoorStones$Told;", Cond.classLink RX6 31 RX1]
def wsL_law_r2 : List Cond := [Cond.instantiable RX1 2, Cond.initialized RX1, Cond.fieldLink RX6 34 "MoorStones" "plans" "LMoorStones$Plans;", Cond.fieldLink RX6 42 "MoorStones" "ways" "LMoorStones$Ways;", Cond.classLink RX6 43 RX0, Cond.instantiable RX0 6, Cond.initialized RX0, Cond.fieldLink RX6 46 "MoorStones" "current" "LMoorStones$Now;", Cond.fieldLink RX6 50 "MoorStones" "imageZero" "LMoorStones$Now;", Cond.fieldLink RX6 53 "MoorStones" "imageOne" "LMoorStones$Now;", Cond.fieldLink RX6 56 "MoorStones" "traced" "J", Cond.methodLink RX6 9 yX2_init, Cond.instanceMethod yX2_init, Cond.code yX2_init cX2_init 1 none, Cond.methodLink RX2 3 objectInit, Cond.classLink RX2 9 RX3, Cond.instantiable RX3 2, Cond.initialized RX3, Cond.fieldLink RX2 12 "MoorStones$Reader" "text" "LMoorStones$Text;", Cond.methodLink RX2 11 yX3_init, Cond.instanceMethod yX3_init, Cond.code yX3_init cX3_init 1 none, Cond.methodLink RX3 3 objectInit, Cond.arrayClass .int]
def wsL_law_r3 : List Cond := [Cond.fieldLink RX3 9 "MoorStones$Text" "bytes" "[I", Cond.fieldLink RX3 15 "MoorStones$Text" "length" "I", Cond.methodLink RX6 23 yX4_init, Cond.instanceMethod yX4_init, Cond.code yX4_init cX4_init 1 none, Cond.methodLink RX4 3 objectInit, Cond.fieldLink RX4 9 "MoorStones$Told" "from" "[I", Cond.fieldLink RX4 15 "MoorStones$Told" "to" "[I", Cond.methodLink RX6 33 yX1_init, Cond.instanceMethod yX1_init, Cond.code yX1_init cX1_init 1 none, Cond.methodLink RX1 3 objectInit, Cond.classLink RX1 9 RX5, Cond.instantiable RX5 4, Cond.initialized RX5, Cond.fieldLink RX1 12 "MoorStones$Plans" "ways" "LMoorStones$Ways;", Cond.fieldLink RX1 18 "MoorStones$Plans" "laidTill" "[I", Cond.instanceMethod yX5_init, Cond.code yX5_init cX5_init 1 none, Cond.methodLink RX5 3 objectInit, Cond.methodLink RX6 45 yX0_init, Cond.instanceMethod yX0_init, Cond.code yX0_init cX0_init 1 none, Cond.methodLink RX0 3 objectInit]
def wsL_law_r4 : List Cond := [Cond.fieldLink RX0 9 "MoorStones$Now" "bears" "[I", Cond.fieldLink RX0 15 "MoorStones$Now" "layers" "[I", Cond.fieldLink RX0 18 "MoorStones$Now" "passed" "[I", Cond.methodLink RL 12 yX7_init, Cond.instanceMethod yX7_init, Cond.code yX7_init cX7_init 1 none, Cond.methodLink RX7 1 objectInit, Cond.fieldLink RX7 7 "MoorStonesModel" "text" "[I", Cond.fieldLink RX7 13 "MoorStonesModel" "told" "[I", Cond.fieldLink RX7 16 "MoorStonesModel" "draft" "[I", Cond.fieldLink RX7 19 "MoorStonesModel" "ends" "[I", Cond.fieldLink RX7 22 "MoorStonesModel" "draftEnds" "[I", Cond.fieldLink RX7 25 "MoorStonesModel" "s" "[I", Cond.fieldLink RX7 28 "MoorStonesModel" "images" "[I", Cond.arrayClass .boolean, Cond.fieldLink RX7 31 "MoorStonesModel" "kept" "[Z", Cond.fieldLink RX7 35 "MoorStonesModel" "far" "[I", Cond.fieldLink RX7 38 "MoorStonesModel" "bogs" "[I", Cond.fieldLink RX7 41 "MoorStonesModel" "near" "[I", Cond.fieldLink RX7 44 "MoorStonesModel" "worth" "[I", Cond.fieldLink RX7 47 "MoorStonesModel" "thrown" "I", Cond.methodLink RL 15 yX6_type, Cond.instanceMethod yX6_type, Cond.selects RX6 yX6_type yX6_type]
def wsL_law_r5 : List Cond := [Cond.code yX6_type cX6_type 5 (some .int), Cond.methodLink RX6 66 yX3_add, Cond.instanceMethod yX3_add, Cond.selects RX3 yX3_add yX3_add, Cond.code yX3_add cX3_add 2 none, Cond.static yX6_put, Cond.code yX6_put cX6_put 3 none, Cond.methodLink RL 19 yX7_type, Cond.instanceMethod yX7_type, Cond.selects RX7 yX7_type yX7_type, Cond.code yX7_type cX7_type 5 (some .int), Cond.fieldLink RX7 64 "MoorStonesModel" "typed" "I", Cond.constantLong RX7 67 (255), Cond.methodLink RX7 57 yX7_in, Cond.static yX7_in, Cond.code yX7_in cX7_in 3 (some .boolean), Cond.methodLink RL 20 yX6_clear, Cond.instanceMethod yX6_clear, Cond.selects RX6 yX6_clear yX6_clear, Cond.code yX6_clear cX6_clear 1 (some .int), Cond.methodLink RX6 70 yX3_empty, Cond.instanceMethod yX3_empty, Cond.selects RX3 yX3_empty yX3_empty, Cond.code yX3_empty cX3_empty 2 (some .int)]
def wsL_law_r6 : List Cond := [Cond.methodLink RL 24 yX7_clear, Cond.instanceMethod yX7_clear, Cond.selects RX7 yX7_clear yX7_clear, Cond.code yX7_clear cX7_clear 2 (some .int), Cond.methodLink RL 25 yX6_moor, Cond.instanceMethod yX6_moor, Cond.selects RX6 yX6_moor yX6_moor, Cond.code yX6_moor cX6_moor 2 (some .int), Cond.methodLink RX6 74 yX2_readInto, Cond.instanceMethod yX2_readInto, Cond.selects RX2 yX2_readInto yX2_readInto, Cond.code yX2_readInto cX2_readInto 3 (some .int), Cond.fieldLink RX2 23 "MoorStones$Reader" "behind" "I", Cond.fieldLink RX2 30 "MoorStones$Reader" "sort" "I", Cond.fieldLink RX2 37 "MoorStones$Reader" "start" "I", Cond.methodLink RX2 18 yX4_empty, Cond.instanceMethod yX4_empty, Cond.selects RX4 yX4_empty yX4_empty, Cond.code yX4_empty cX4_empty 1 none, Cond.fieldLink RX4 18 "MoorStones$Told" "wide" "I", Cond.fieldLink RX4 22 "MoorStones$Told" "high" "I", Cond.fieldLink RX4 25 "MoorStones$Told" "cells" "I", Cond.fieldLink RX4 28 "MoorStones$Told" "bog" "I", Cond.fieldLink RX4 31 "MoorStones$Told" "stones" "I"]
def wsL_law_r7 : List Cond := [Cond.fieldLink RX4 34 "MoorStones$Told" "sink" "I", Cond.fieldLink RX4 37 "MoorStones$Told" "sinkTold" "Z", Cond.fieldLink RX4 41 "MoorStones$Told" "walkers" "I", Cond.methodLink RX2 27 yX2_toNextToken, Cond.instanceMethod yX2_toNextToken, Cond.selects RX2 yX2_toNextToken yX2_toNextToken, Cond.code yX2_toNextToken cX2_toNextToken 2 none, Cond.methodLink RX2 106 yX3_behindRun, Cond.instanceMethod yX3_behindRun, Cond.selects RX3 yX3_behindRun yX3_behindRun, Cond.code yX3_behindRun cX3_behindRun 5 (some .int), Cond.methodLink RX3 23 yX3_byteAt, Cond.instanceMethod yX3_byteAt, Cond.selects RX3 yX3_byteAt yX3_byteAt, Cond.code yX3_byteAt cX3_byteAt 2 (some .int), Cond.methodLink RX2 67 yX3_byteAt, Cond.methodLink RX2 110 yX2_sortOfDigits, Cond.instanceMethod yX2_sortOfDigits, Cond.selects RX2 yX2_sortOfDigits yX2_sortOfDigits, Cond.code yX2_sortOfDigits cX2_sortOfDigits 3 (some .int), Cond.fieldLink RX2 83 "MoorStones$Reader" "number" "I", Cond.methodLink RX2 33 yX2_readItem, Cond.instanceMethod yX2_readItem, Cond.selects RX2 yX2_readItem yX2_readItem]
def wsL_law_r8 : List Cond := [Cond.code yX2_readItem cX2_readItem 3 (some .boolean), Cond.methodLink RX2 42 yX2_isWord, Cond.instanceMethod yX2_isWord, Cond.selects RX2 yX2_isWord yX2_isWord, Cond.code yX2_isWord cX2_isWord 3 (some .boolean), Cond.methodLink RX2 96 yJ0_length_8abf5, Cond.instanceMethod yJ0_length_8abf5, Cond.selects RJ0 yJ0_length_8abf5 yJ0_length_8abf5, Cond.initialized RJ0, Cond.code yJ0_length_8abf5 cJ0_length_8abf5 1 (some .int), Cond.fieldLink RJ0 9 "java/lang/String" "value" "[B", Cond.methodLink RJ0 335 yJ0_coder_7d493, Cond.instanceMethod yJ0_coder_7d493, Cond.selects RJ0 yJ0_coder_7d493 yJ0_coder_7d493, Cond.code yJ0_coder_7d493 cJ0_coder_7d493 1 (some .byte), Cond.fieldLink RJ0 38 "java/lang/String" "COMPACT_STRINGS" "Z", Cond.fieldLink RJ0 15 "java/lang/String" "coder" "B", Cond.methodLink RX2 102 yJ0_charAt_5068e, Cond.instanceMethod yJ0_charAt_5068e, Cond.selects RJ0 yJ0_charAt_5068e yJ0_charAt_5068e, Cond.code yJ0_charAt_5068e cJ0_charAt_5068e 2 (some .char), Cond.methodLink RJ0 492 yJ0_isLatin1_aae02, Cond.instanceMethod yJ0_isLatin1_aae02, Cond.selects RJ0 yJ0_isLatin1_aae02 yJ0_isLatin1_aae02]
def wsL_law_r9 : List Cond := [Cond.code yJ0_isLatin1_aae02 cJ0_isLatin1_aae02 1 (some .boolean), Cond.methodLink RJ0 495 yJ1_charAt_3b067, Cond.static yJ1_charAt_3b067, Cond.initialized RJ1, Cond.code yJ1_charAt_3b067 cJ1_charAt_3b067 2 (some .char), Cond.methodLink RJ1 9 yJ0_checkIndex_df160, Cond.static yJ0_checkIndex_df160, Cond.code yJ0_checkIndex_df160 cJ0_checkIndex_df160 2 none, Cond.fieldLink RJ0 1053 "jdk/internal/util/Preconditions" "SIOOBE_FORMATTER" "Ljava/util/function/BiFunction;", Cond.methodLink RJ0 1059 yJ3_checkIndex_8e157, Cond.static yJ3_checkIndex_8e157, Cond.initialized RJ3, Cond.code yJ3_checkIndex_8e157 cJ3_checkIndex_8e157 3 (some .int), Cond.methodLink RJ0 498 yJ2_charAt_3b067, Cond.static yJ2_charAt_3b067, Cond.initialized RJ2, Cond.code yJ2_charAt_3b067 cJ2_charAt_3b067 2 (some .char), Cond.methodLink RJ2 67 yJ2_checkIndex_2214a, Cond.static yJ2_checkIndex_2214a, Cond.code yJ2_checkIndex_2214a cJ2_checkIndex_2214a 2 none, Cond.methodLink RJ2 48 yJ2_length_9d52b, Cond.static yJ2_length_9d52b, Cond.code yJ2_length_9d52b cJ2_length_9d52b 1 (some .int), Cond.methodLink RJ2 414 yJ0_checkIndex_df160]
def wsL_law_r10 : List Cond := [Cond.methodLink RJ2 71 yJ2_getChar_3b067, Cond.static yJ2_getChar_3b067, Cond.code yJ2_getChar_3b067 cJ2_getChar_3b067 2 (some .char), Cond.fieldLink RJ2 44 "java/lang/StringUTF16" "$assertionsDisabled" "Z", Cond.fieldLink RJ2 59 "java/lang/StringUTF16" "HI_BYTE_SHIFT" "I", Cond.fieldLink RJ2 63 "java/lang/StringUTF16" "LO_BYTE_SHIFT" "I", Cond.methodLink RX2 46 yX2_readRow, Cond.instanceMethod yX2_readRow, Cond.selects RX2 yX2_readRow yX2_readRow, Cond.code yX2_readRow cX2_readRow 3 (some .boolean), Cond.methodLink RX2 59 yX4_takesRow, Cond.instanceMethod yX4_takesRow, Cond.selects RX4 yX4_takesRow yX4_takesRow, Cond.code yX4_takesRow cX4_takesRow 1 (some .boolean), Cond.methodLink RX2 63 yX4_beginRow, Cond.instanceMethod yX4_beginRow, Cond.selects RX4 yX4_beginRow yX4_beginRow, Cond.code yX4_beginRow cX4_beginRow 2 (some .boolean), Cond.methodLink RX2 71 yX4_addCell, Cond.instanceMethod yX4_addCell, Cond.selects RX4 yX4_addCell yX4_addCell, Cond.code yX4_addCell cX4_addCell 2 (some .boolean), Cond.methodLink RX2 51 yX2_readWalker, Cond.instanceMethod yX2_readWalker]
def wsL_law_r11 : List Cond := [Cond.selects RX2 yX2_readWalker yX2_readWalker, Cond.code yX2_readWalker cX2_readWalker 3 (some .boolean), Cond.methodLink RX2 80 yX2_isNumberTo, Cond.instanceMethod yX2_isNumberTo, Cond.selects RX2 yX2_isNumberTo yX2_isNumberTo, Cond.code yX2_isNumberTo cX2_isNumberTo 2 (some .boolean), Cond.methodLink RX2 86 yX4_addWalker, Cond.instanceMethod yX4_addWalker, Cond.selects RX4 yX4_addWalker yX4_addWalker, Cond.code yX4_addWalker cX4_addWalker 3 none, Cond.methodLink RX2 56 yX2_readSink, Cond.instanceMethod yX2_readSink, Cond.selects RX2 yX2_readSink yX2_readSink, Cond.code yX2_readSink cX2_readSink 2 (some .boolean), Cond.methodLink RX6 78 yX4_copy, Cond.instanceMethod yX4_copy, Cond.selects RX4 yX4_copy yX4_copy, Cond.code yX4_copy cX4_copy 2 none, Cond.static yX6_copyRow, Cond.code yX6_copyRow cX6_copyRow 2 none, Cond.methodLink RX6 252 Lib.Math.min.name, Cond.static Lib.Math.min.name, Cond.initialized "java/lang/Math", Cond.code Lib.Math.min.name Lib.Math.min.code 2 (some .int)]
def wsL_law_r12 : List Cond := [Cond.methodLink RX6 255 arraycopyName, Cond.native arraycopyName, Cond.static arraycopyName, Cond.initialized "java/lang/System", Cond.methodLink RX6 88 yX5_measure, Cond.instanceMethod yX5_measure, Cond.selects RX5 yX5_measure yX5_measure, Cond.code yX5_measure cX5_measure 4 none, Cond.fieldLink RX5 9 "MoorStones$Ways" "wide" "I", Cond.fieldLink RX5 15 "MoorStones$Ways" "all" "I", Cond.fieldLink RX5 18 "MoorStones$Ways" "firstColumn" "I", Cond.fieldLink RX5 21 "MoorStones$Ways" "lastColumn" "I", Cond.methodLink RX6 94 yX0_beginAsTold, Cond.instanceMethod yX0_beginAsTold, Cond.selects RX0 yX0_beginAsTold yX0_beginAsTold, Cond.code yX0_beginAsTold cX0_beginAsTold 3 none, Cond.fieldLink RX0 27 "MoorStones$Now" "bog" "I", Cond.fieldLink RX0 31 "MoorStones$Now" "stones" "I", Cond.static yX6_has, Cond.code yX6_has cX6_has 2 (some .boolean), Cond.methodLink RL 28 yX7_moor, Cond.instanceMethod yX7_moor, Cond.selects RX7 yX7_moor yX7_moor, Cond.code yX7_moor cX7_moor 3 (some .int)]
def wsL_law_r13 : List Cond := [Cond.fieldLink RX7 76 "MoorStonesModel" "start" "I", Cond.fieldLink RX7 105 "MoorStonesModel" "draftWide" "I", Cond.fieldLink RX7 51 "MoorStonesModel" "wide" "I", Cond.fieldLink RX7 99 "MoorStonesModel" "draftHigh" "I", Cond.fieldLink RX7 54 "MoorStonesModel" "high" "I", Cond.fieldLink RX7 102 "MoorStonesModel" "draftWalkers" "I", Cond.fieldLink RX7 61 "MoorStonesModel" "walkers" "I", Cond.fieldLink RX7 111 "MoorStonesModel" "draftSink" "I", Cond.fieldLink RX7 128 "MoorStonesModel" "sink" "I", Cond.methodLink RX7 131 yX7_reads, Cond.instanceMethod yX7_reads, Cond.selects RX7 yX7_reads yX7_reads, Cond.code yX7_reads cX7_reads 4 (some .int), Cond.fieldLink RX7 69 "MoorStonesModel" "at" "I", Cond.fieldLink RX7 82 "MoorStonesModel" "sort" "I", Cond.methodLink RX7 96 yX7_token, Cond.instanceMethod yX7_token, Cond.selects RX7 yX7_token yX7_token, Cond.code yX7_token cX7_token 1 none, Cond.fieldLink RX7 85 "MoorStonesModel" "size" "I", Cond.methodLink RX7 72 yX7_byteAt, Cond.instanceMethod yX7_byteAt, Cond.selects RX7 yX7_byteAt yX7_byteAt, Cond.code yX7_byteAt cX7_byteAt 2 (some .int)]
def wsL_law_r14 : List Cond := [Cond.methodLink RX7 79 yX7_sortOf, Cond.static yX7_sortOf, Cond.code yX7_sortOf cX7_sortOf 1 (some .int), Cond.methodLink RX7 114 yX7_verb, Cond.instanceMethod yX7_verb, Cond.selects RX7 yX7_verb yX7_verb, Cond.code yX7_verb cX7_verb 4 (some .int), Cond.constantLong RX7 88 (256), Cond.constantLong RX7 90 (7499639), Cond.constantLong RX7 92 (131260314510706), Cond.constantLong RX7 94 (1936289387), Cond.methodLink RX7 118 yX7_readsRow, Cond.instanceMethod yX7_readsRow, Cond.selects RX7 yX7_readsRow yX7_readsRow, Cond.code yX7_readsRow cX7_readsRow 4 (some .boolean), Cond.methodLink RX7 122 yX7_readsWalker, Cond.instanceMethod yX7_readsWalker, Cond.selects RX7 yX7_readsWalker yX7_readsWalker, Cond.code yX7_readsWalker cX7_readsWalker 4 (some .boolean), Cond.methodLink RX7 108 yX7_number, Cond.instanceMethod yX7_number, Cond.selects RX7 yX7_number yX7_number, Cond.code yX7_number cX7_number 3 (some .int), Cond.methodLink RX7 125 yX7_readsSink]
def wsL_law_r15 : List Cond := [Cond.instanceMethod yX7_readsSink, Cond.selects RX7 yX7_readsSink yX7_readsSink, Cond.code yX7_readsSink cX7_readsSink 2 (some .boolean), Cond.methodLink RX7 134 yX7_begins, Cond.instanceMethod yX7_begins, Cond.selects RX7 yX7_begins yX7_begins, Cond.code yX7_begins cX7_begins 2 none, Cond.methodLink RL 29 yX6_cell, Cond.instanceMethod yX6_cell, Cond.selects RX6 yX6_cell yX6_cell, Cond.code yX6_cell cX6_cell 3 (some .int), Cond.methodLink RX6 101 yX6_isCell, Cond.instanceMethod yX6_isCell, Cond.selects RX6 yX6_isCell yX6_isCell, Cond.code yX6_isCell cX6_isCell 2 (some .boolean), Cond.methodLink RX6 105 yX0_groundOf, Cond.instanceMethod yX0_groundOf, Cond.selects RX0 yX0_groundOf yX0_groundOf, Cond.code yX0_groundOf cX0_groundOf 2 (some .int), Cond.methodLink RX6 113 yX6_at, Cond.static yX6_at, Cond.code yX6_at cX6_at 2 (some .int), Cond.methodLink RL 33 yX7_cell, Cond.instanceMethod yX7_cell]
def wsL_law_r16 : List Cond := [Cond.selects RX7 yX7_cell yX7_cell, Cond.code yX7_cell cX7_cell 3 (some .int), Cond.methodLink RX7 137 yX7_isCell, Cond.instanceMethod yX7_isCell, Cond.selects RX7 yX7_isCell yX7_isCell, Cond.code yX7_isCell cX7_isCell 2 (some .boolean), Cond.methodLink RL 34 yX6_walker, Cond.instanceMethod yX6_walker, Cond.selects RX6 yX6_walker yX6_walker, Cond.code yX6_walker cX6_walker 3 (some .int), Cond.methodLink RX6 120 yX6_isWalker, Cond.instanceMethod yX6_isWalker, Cond.selects RX6 yX6_isWalker yX6_isWalker, Cond.code yX6_isWalker cX6_isWalker 2 (some .boolean), Cond.methodLink RX6 132 yX0_laidBy, Cond.instanceMethod yX0_laidBy, Cond.selects RX0 yX0_laidBy yX0_laidBy, Cond.code yX0_laidBy cX0_laidBy 4 (some .int), Cond.methodLink RL 37 yX7_walker, Cond.instanceMethod yX7_walker, Cond.selects RX7 yX7_walker yX7_walker, Cond.code yX7_walker cX7_walker 3 (some .int), Cond.methodLink RX7 141 yX7_isWalker, Cond.instanceMethod yX7_isWalker]
def wsL_law_r17 : List Cond := [Cond.selects RX7 yX7_isWalker yX7_isWalker, Cond.code yX7_isWalker cX7_isWalker 2 (some .boolean), Cond.methodLink RX7 144 yX7_laidBy, Cond.instanceMethod yX7_laidBy, Cond.selects RX7 yX7_laidBy yX7_laidBy, Cond.code yX7_laidBy cX7_laidBy 4 (some .int), Cond.methodLink RL 38 yX6_passes, Cond.instanceMethod yX6_passes, Cond.selects RX6 yX6_passes yX6_passes, Cond.code yX6_passes cX6_passes 3 (some .int), Cond.methodLink RX6 135 yX6_stepsOf, Cond.instanceMethod yX6_stepsOf, Cond.selects RX6 yX6_stepsOf yX6_stepsOf, Cond.code yX6_stepsOf cX6_stepsOf 2 (some .int), Cond.methodLink RX6 169 yX6_bearing, Cond.instanceMethod yX6_bearing, Cond.selects RX6 yX6_bearing yX6_bearing, Cond.code yX6_bearing cX6_bearing 1 (some .int), Cond.methodLink RX6 172 yX5_fewestSteps, Cond.instanceMethod yX5_fewestSteps, Cond.selects RX5 yX5_fewestSteps yX5_fewestSteps, Cond.code yX5_fewestSteps cX5_fewestSteps 7 (some .int), Cond.methodLink RX5 24 yX5_near, Cond.instanceMethod yX5_near]
def wsL_law_r18 : List Cond := [Cond.selects RX5 yX5_near yX5_near, Cond.code yX5_near cX5_near 8 (some .int), Cond.methodLink RX6 141 yX6_has, Cond.methodLink RX6 145 yX6_goAndLay, Cond.instanceMethod yX6_goAndLay, Cond.selects RX6 yX6_goAndLay yX6_goAndLay, Cond.code yX6_goAndLay cX6_goAndLay 8 (some .int), Cond.methodLink RX6 176 yX5_nextCell, Cond.instanceMethod yX5_nextCell, Cond.selects RX5 yX5_nextCell yX5_nextCell, Cond.code yX5_nextCell cX5_nextCell 7 (some .int), Cond.methodLink RX5 36 yX5_fewestSteps, Cond.methodLink RX6 230 yX0_stepOn, Cond.instanceMethod yX0_stepOn, Cond.selects RX0 yX0_stepOn yX0_stepOn, Cond.code yX0_stepOn cX0_stepOn 3 none, Cond.methodLink RX6 233 yX0_lay, Cond.instanceMethod yX0_lay, Cond.selects RX0 yX0_lay yX0_lay, Cond.code yX0_lay cX0_lay 4 none, Cond.methodLink RL 41 yX7_passes, Cond.instanceMethod yX7_passes, Cond.selects RX7 yX7_passes yX7_passes, Cond.code yX7_passes cX7_passes 4 (some .int)]
def wsL_law_r19 : List Cond := [Cond.methodLink RX7 159 yX7_stepsOf, Cond.instanceMethod yX7_stepsOf, Cond.selects RX7 yX7_stepsOf yX7_stepsOf, Cond.code yX7_stepsOf cX7_stepsOf 3 (some .int), Cond.methodLink RX7 155 yX7_measures, Cond.instanceMethod yX7_measures, Cond.selects RX7 yX7_measures yX7_measures, Cond.code yX7_measures cX7_measures 7 none, Cond.methodLink RX7 151 yX7_isStep, Cond.instanceMethod yX7_isStep, Cond.selects RX7 yX7_isStep yX7_isStep, Cond.code yX7_isStep cX7_isStep 5 (some .boolean), Cond.methodLink RX7 147 yX7_apartBy, Cond.static yX7_apartBy, Cond.code yX7_apartBy cX7_apartBy 2 (some .int), Cond.methodLink RX7 165 yX7_passesAndLays, Cond.instanceMethod yX7_passesAndLays, Cond.selects RX7 yX7_passesAndLays yX7_passesAndLays, Cond.code yX7_passesAndLays cX7_passesAndLays 6 none, Cond.methodLink RX7 162 yX7_onward, Cond.instanceMethod yX7_onward, Cond.selects RX7 yX7_onward yX7_onward, Cond.code yX7_onward cX7_onward 4 (some .int), Cond.methodLink RL 42 yX6_days]
def wsL_law_r20 : List Cond := [Cond.instanceMethod yX6_days, Cond.selects RX6 yX6_days yX6_days, Cond.code yX6_days cX6_days 5 (some .int), Cond.methodLink RX6 152 yX6_likedBy, Cond.instanceMethod yX6_likedBy, Cond.selects RX6 yX6_likedBy yX6_likedBy, Cond.code yX6_likedBy cX6_likedBy 2 (some .int), Cond.methodLink RX6 227 yX1_bestToLay, Cond.instanceMethod yX1_bestToLay, Cond.selects RX1 yX1_bestToLay yX1_bestToLay, Cond.code yX1_bestToLay cX1_bestToLay 10 (some .int), Cond.methodLink RX1 26 yX5_fewestSteps, Cond.methodLink RL 46 yX7_days, Cond.instanceMethod yX7_days, Cond.selects RX7 yX7_days yX7_days, Cond.code yX7_days cX7_days 6 (some .int), Cond.methodLink RX7 169 yX7_likesOf, Cond.instanceMethod yX7_likesOf, Cond.selects RX7 yX7_likesOf yX7_likesOf, Cond.code yX7_likesOf cX7_likesOf 6 (some .int), Cond.methodLink RL 47 yX6_now, Cond.instanceMethod yX6_now, Cond.selects RX6 yX6_now yX6_now, Cond.code yX6_now cX6_now 2 (some .int)]
def wsL_law_r21 : List Cond := [Cond.methodLink RX6 161 yJ6_bitCount_0f7a4, Cond.static yJ6_bitCount_0f7a4, Cond.initialized RJ6, Cond.code yJ6_bitCount_0f7a4 cJ6_bitCount_0f7a4 1 (some .int), Cond.constant RJ6 265 (1431655765), Cond.constant RJ6 266 (858993459), Cond.constant RJ6 267 (252645135), Cond.methodLink RX6 166 yX0_passedByAll, Cond.instanceMethod yX0_passedByAll, Cond.selects RX0 yX0_passedByAll yX0_passedByAll, Cond.code yX0_passedByAll cX0_passedByAll 3 (some .int), Cond.methodLink RL 50 yX7_now, Cond.instanceMethod yX7_now, Cond.selects RX7 yX7_now yX7_now, Cond.code yX7_now cX7_now 2 (some .int), Cond.methodLink RX7 172 yX7_many, Cond.instanceMethod yX7_many, Cond.selects RX7 yX7_many yX7_many, Cond.code yX7_many cX7_many 4 (some .int), Cond.methodLink RX7 175 yX7_passedInAll, Cond.instanceMethod yX7_passedInAll, Cond.selects RX7 yX7_passedInAll yX7_passedInAll, Cond.code yX7_passedInAll cX7_passedInAll 1 (some .int), Cond.methodLink RL 51 yX6_anew]
def wsL_law_r22 : List Cond := [Cond.instanceMethod yX6_anew, Cond.selects RX6 yX6_anew yX6_anew, Cond.code yX6_anew cX6_anew 2 (some .int), Cond.methodLink RL 54 yX7_anew, Cond.instanceMethod yX7_anew, Cond.selects RX7 yX7_anew yX7_anew, Cond.code yX7_anew cX7_anew 2 (some .int), Cond.methodLink RL 55 yX6_steps, Cond.instanceMethod yX6_steps, Cond.selects RX6 yX6_steps yX6_steps, Cond.code yX6_steps cX6_steps 3 (some .int), Cond.methodLink RL 58 yX7_steps, Cond.instanceMethod yX7_steps, Cond.selects RX7 yX7_steps yX7_steps, Cond.code yX7_steps cX7_steps 3 (some .int), Cond.methodLink RL 59 yX6_way, Cond.instanceMethod yX6_way, Cond.selects RX6 yX6_way yX6_way, Cond.code yX6_way cX6_way 7 (some .int), Cond.methodLink RL 63 yX7_way, Cond.instanceMethod yX7_way, Cond.selects RX7 yX7_way yX7_way, Cond.code yX7_way cX7_way 7 (some .int), Cond.methodLink RL 64 yX6_stones]
def wsL_law_r23 : List Cond := [Cond.instanceMethod yX6_stones, Cond.selects RX6 yX6_stones yX6_stones, Cond.code yX6_stones cX6_stones 3 (some .int), Cond.methodLink RX6 179 yX5_fewestStones, Cond.instanceMethod yX5_fewestStones, Cond.selects RX5 yX5_fewestStones yX5_fewestStones, Cond.code yX5_fewestStones cX5_fewestStones 6 (some .int), Cond.methodLink RX5 32 yX5_spread, Cond.instanceMethod yX5_spread, Cond.selects RX5 yX5_spread yX5_spread, Cond.code yX5_spread cX5_spread 6 (some .int), Cond.methodLink RL 67 yX7_stones, Cond.instanceMethod yX7_stones, Cond.selects RX7 yX7_stones yX7_stones, Cond.code yX7_stones cX7_stones 3 (some .int), Cond.methodLink RX7 178 yX7_costs, Cond.instanceMethod yX7_costs, Cond.selects RX7 yX7_costs yX7_costs, Cond.code yX7_costs cX7_costs 9 (some .int), Cond.methodLink RL 68 yX6_joined, Cond.instanceMethod yX6_joined, Cond.selects RX6 yX6_joined yX6_joined, Cond.code yX6_joined cX6_joined 4 (some .int), Cond.methodLink RX6 182 yX1_leastJoining]
def wsL_law_r24 : List Cond := [Cond.instanceMethod yX1_leastJoining, Cond.selects RX1 yX1_leastJoining yX1_leastJoining, Cond.code yX1_leastJoining cX1_leastJoining 8 (some .int), Cond.methodLink RX1 30 yJ6_bitCount_0f7a4, Cond.methodLink RX1 36 yX1_joinsAll, Cond.instanceMethod yX1_joinsAll, Cond.selects RX1 yX1_joinsAll yX1_joinsAll, Cond.code yX1_joinsAll cX1_joinsAll 4 (some .boolean), Cond.methodLink RX1 39 yX5_spread, Cond.methodLink RL 71 yX7_joined, Cond.instanceMethod yX7_joined, Cond.selects RX7 yX7_joined yX7_joined, Cond.code yX7_joined cX7_joined 6 (some .int), Cond.methodLink RX7 193 yX7_listsBogs, Cond.instanceMethod yX7_listsBogs, Cond.selects RX7 yX7_listsBogs yX7_listsBogs, Cond.code yX7_listsBogs cX7_listsBogs 3 (some .int), Cond.methodLink RX7 196 yX7_nears, Cond.instanceMethod yX7_nears, Cond.selects RX7 yX7_nears yX7_nears, Cond.code yX7_nears cX7_nears 3 none, Cond.methodLink RX7 199 yX7_joins, Cond.instanceMethod yX7_joins, Cond.selects RX7 yX7_joins yX7_joins]
def wsL_law_r25 : List Cond := [Cond.code yX7_joins cX7_joins 9 (some .int), Cond.methodLink RX7 181 yX7_chosen, Cond.instanceMethod yX7_chosen, Cond.selects RX7 yX7_chosen yX7_chosen, Cond.code yX7_chosen cX7_chosen 5 (some .int), Cond.methodLink RX7 184 yX7_bearing, Cond.instanceMethod yX7_bearing, Cond.selects RX7 yX7_bearing yX7_bearing, Cond.code yX7_bearing cX7_bearing 3 (some .int), Cond.methodLink RX7 187 yX7_ones, Cond.static yX7_ones, Cond.code yX7_ones cX7_ones 3 (some .int), Cond.methodLink RX7 190 yX7_reached, Cond.instanceMethod yX7_reached, Cond.selects RX7 yX7_reached yX7_reached, Cond.code yX7_reached cX7_reached 7 (some .int), Cond.methodLink RL 72 yX6_likes, Cond.instanceMethod yX6_likes, Cond.selects RX6 yX6_likes yX6_likes, Cond.code yX6_likes cX6_likes 2 (some .int), Cond.methodLink RL 75 yX7_likes, Cond.instanceMethod yX7_likes, Cond.selects RX7 yX7_likes yX7_likes, Cond.code yX7_likes cX7_likes 2 (some .int)]
def wsL_law_r26 : List Cond := [Cond.methodLink RL 76 yX6_byTurns, Cond.instanceMethod yX6_byTurns, Cond.selects RX6 yX6_byTurns yX6_byTurns, Cond.code yX6_byTurns cX6_byTurns 3 (some .int), Cond.methodLink RX6 185 yX1_laidByTurns, Cond.instanceMethod yX1_laidByTurns, Cond.selects RX1 yX1_laidByTurns yX1_laidByTurns, Cond.code yX1_laidByTurns cX1_laidByTurns 9 (some .int), Cond.methodLink RX1 43 yX5_joins, Cond.instanceMethod yX5_joins, Cond.selects RX5 yX5_joins yX5_joins, Cond.code yX5_joins cX5_joins 4 (some .boolean), Cond.methodLink RX1 47 yX1_bestOfNext, Cond.instanceMethod yX1_bestOfNext, Cond.selects RX1 yX1_bestOfNext yX1_bestOfNext, Cond.code yX1_bestOfNext cX1_bestOfNext 7 (some .int), Cond.methodLink RX1 58 Lib.Math.min.name, Cond.methodLink RX1 63 Lib.Math.max.name, Cond.static Lib.Math.max.name, Cond.code Lib.Math.max.name Lib.Math.max.code 2 (some .int), Cond.methodLink RL 79 yX7_byTurns, Cond.instanceMethod yX7_byTurns, Cond.selects RX7 yX7_byTurns yX7_byTurns, Cond.code yX7_byTurns cX7_byTurns 11 (some .int)]
def wsL_law_r27 : List Cond := [Cond.methodLink RL 80 yX6_apart, Cond.instanceMethod yX6_apart, Cond.selects RX6 yX6_apart yX6_apart, Cond.code yX6_apart cX6_apart 4 (some .int), Cond.methodLink RX6 189 yX5_near, Cond.methodLink RX6 192 yX1_fewestApart, Cond.instanceMethod yX1_fewestApart, Cond.selects RX1 yX1_fewestApart yX1_fewestApart, Cond.code yX1_fewestApart cX1_fewestApart 9 (some .int), Cond.methodLink RX1 66 yX5_near, Cond.methodLink RL 83 yX7_apart, Cond.instanceMethod yX7_apart, Cond.selects RX7 yX7_apart yX7_apart, Cond.code yX7_apart cX7_apart 10 (some .int), Cond.methodLink RL 84 yX6_rate, Cond.instanceMethod yX6_rate, Cond.selects RX6 yX6_rate yX6_rate, Cond.code yX6_rate cX6_rate 3 (some .int), Cond.constant RX6 195 (-1000000), Cond.methodLink RX6 196 yX6_rateWalker, Cond.instanceMethod yX6_rateWalker, Cond.selects RX6 yX6_rateWalker yX6_rateWalker, Cond.code yX6_rateWalker cX6_rateWalker 2 (some .int), Cond.methodLink RX6 237 Lib.Math.max.name]
def wsL_law_r28 : List Cond := [Cond.methodLink RX6 199 yX6_ratePilgrim, Cond.instanceMethod yX6_ratePilgrim, Cond.selects RX6 yX6_ratePilgrim yX6_ratePilgrim, Cond.code yX6_ratePilgrim cX6_ratePilgrim 2 (some .int), Cond.constantLong RX6 242 (10), Cond.methodLink RX6 202 yX6_rateShepherd, Cond.instanceMethod yX6_rateShepherd, Cond.selects RX6 yX6_rateShepherd yX6_rateShepherd, Cond.code yX6_rateShepherd cX6_rateShepherd 2 (some .int), Cond.constantLong RX6 244 (100), Cond.methodLink RX6 205 yX6_rateMonk, Cond.instanceMethod yX6_rateMonk, Cond.selects RX6 yX6_rateMonk yX6_rateMonk, Cond.code yX6_rateMonk cX6_rateMonk 2 (some .int), Cond.constantLong RX6 246 (1000), Cond.methodLink RX6 208 yX6_rateThief, Cond.instanceMethod yX6_rateThief, Cond.selects RX6 yX6_rateThief yX6_rateThief, Cond.code yX6_rateThief cX6_rateThief 2 (some .int), Cond.constantLong RX6 248 (10000), Cond.methodLink RX6 211 yX6_rateChild, Cond.instanceMethod yX6_rateChild, Cond.selects RX6 yX6_rateChild yX6_rateChild, Cond.code yX6_rateChild cX6_rateChild 2 (some .int)]
def wsL_law_r29 : List Cond := [Cond.constantLong RX6 250 (100000), Cond.methodLink RL 87 yX7_rate, Cond.instanceMethod yX7_rate, Cond.selects RX7 yX7_rate yX7_rate, Cond.code yX7_rate cX7_rate 7 (some .int), Cond.constant RX7 202 (-1000000), Cond.fieldLink RX7 203 "MoorStonesModel" "trace" "J", Cond.constantLong RX7 207 (11), Cond.constantLong RX7 209 (101), Cond.constantLong RX7 211 (1011), Cond.constantLong RX7 213 (10101), Cond.constantLong RX7 215 (100001), Cond.methodLink RL 88 yX6_keep, Cond.instanceMethod yX6_keep, Cond.selects RX6 yX6_keep yX6_keep, Cond.code yX6_keep cX6_keep 3 (some .int), Cond.methodLink RX6 214 yX6_imageOf, Cond.instanceMethod yX6_imageOf, Cond.selects RX6 yX6_imageOf yX6_imageOf, Cond.code yX6_imageOf cX6_imageOf 2 (some (.object "MoorStones$Now")), Cond.methodLink RX6 218 yX0_copy, Cond.instanceMethod yX0_copy, Cond.selects RX0 yX0_copy yX0_copy, Cond.code yX0_copy cX0_copy 2 none]
def wsL_law_r30 : List Cond := [Cond.methodLink RL 91 yX7_keep, Cond.instanceMethod yX7_keep, Cond.selects RX7 yX7_keep yX7_keep, Cond.code yX7_keep cX7_keep 3 (some .int), Cond.methodLink RL 92 yX6_back, Cond.instanceMethod yX6_back, Cond.selects RX6 yX6_back yX6_back, Cond.code yX6_back cX6_back 3 (some .int), Cond.methodLink RL 95 yX7_back, Cond.instanceMethod yX7_back, Cond.selects RX7 yX7_back yX7_back, Cond.code yX7_back cX7_back 3 (some .int), Cond.methodLink RL 96 yX6_count, Cond.instanceMethod yX6_count, Cond.selects RX6 yX6_count yX6_count, Cond.code yX6_count cX6_count 2 (some .int), Cond.methodLink RL 99 yX7_count, Cond.instanceMethod yX7_count, Cond.selects RX7 yX7_count yX7_count, Cond.code yX7_count cX7_count 2 (some .int), Cond.methodLink RL 100 yX6_trace, Cond.instanceMethod yX6_trace, Cond.selects RX6 yX6_trace yX6_trace, Cond.code yX6_trace cX6_trace 1 (some .long)]
def wsL_law_r31 : List Cond := [Cond.methodLink RL 104 yX7_trace, Cond.instanceMethod yX7_trace, Cond.selects RX7 yX7_trace yX7_trace, Cond.code yX7_trace cX7_trace 1 (some .long)]
def wsL_law : List Cond := (wsL_law_r1 ++ (wsL_law_r2 ++ (wsL_law_r3 ++ (wsL_law_r4 ++ (wsL_law_r5 ++ (wsL_law_r6 ++ (wsL_law_r7 ++ (wsL_law_r8 ++ (wsL_law_r9 ++ (wsL_law_r10 ++ (wsL_law_r11 ++ (wsL_law_r12 ++ (wsL_law_r13 ++ (wsL_law_r14 ++ (wsL_law_r15 ++ (wsL_law_r16 ++ (wsL_law_r17 ++ (wsL_law_r18 ++ (wsL_law_r19 ++ (wsL_law_r20 ++ (wsL_law_r21 ++ (wsL_law_r22 ++ (wsL_law_r23 ++ (wsL_law_r24 ++ (wsL_law_r25 ++ (wsL_law_r26 ++ (wsL_law_r27 ++ (wsL_law_r28 ++ (wsL_law_r29 ++ (wsL_law_r30 ++ wsL_law_r31)))))))))))))))))))))))))))))) ++ wsX60 ++ wsX70 ++ wsX20 ++ wsX40 ++ wsX10 ++ wsX00 ++ wsX30 ++ wsX50 ++ ([] : List Cond)
theorem inlX0 : ∀ w ∈ wsX00, w ∈ wsL_law := fun _ h => List.mem_append_left _ (List.mem_append_left _ (List.mem_append_left _ (List.mem_append_right _ h)))
theorem inlX1 : ∀ w ∈ wsX10, w ∈ wsL_law := fun _ h => List.mem_append_left _ (List.mem_append_left _ (List.mem_append_left _ (List.mem_append_left _ (List.mem_append_right _ h))))
theorem inlX2 : ∀ w ∈ wsX20, w ∈ wsL_law := fun _ h => List.mem_append_left _ (List.mem_append_left _ (List.mem_append_left _ (List.mem_append_left _ (List.mem_append_left _ (List.mem_append_left _ (List.mem_append_right _ h))))))
theorem inlX3 : ∀ w ∈ wsX30, w ∈ wsL_law := fun _ h => List.mem_append_left _ (List.mem_append_left _ (List.mem_append_right _ h))
theorem inlX4 : ∀ w ∈ wsX40, w ∈ wsL_law := fun _ h => List.mem_append_left _ (List.mem_append_left _ (List.mem_append_left _ (List.mem_append_left _ (List.mem_append_left _ (List.mem_append_right _ h)))))
theorem inlX5 : ∀ w ∈ wsX50, w ∈ wsL_law := fun _ h => List.mem_append_left _ (List.mem_append_right _ h)
theorem inlX6 : ∀ w ∈ wsX60, w ∈ wsL_law := fun _ h => List.mem_append_left _ (List.mem_append_left _ (List.mem_append_left _ (List.mem_append_left _ (List.mem_append_left _ (List.mem_append_left _ (List.mem_append_left _ (List.mem_append_left _ (List.mem_append_right _ h))))))))
theorem inlX7 : ∀ w ∈ wsX70, w ∈ wsL_law := fun _ h => List.mem_append_left _ (List.mem_append_left _ (List.mem_append_left _ (List.mem_append_left _ (List.mem_append_left _ (List.mem_append_left _ (List.mem_append_left _ (List.mem_append_right _ h)))))))
abbrev vwCl : List vw_C := [(RX0, TX0, 6), (RX1, TX1, 2), (RX2, TX2, 5), (RX3, TX3, 2), (RX4, TX4, 10), (RX5, TX5, 4), (RX6, TX6, 10), (RX7, TX7, 27)]
