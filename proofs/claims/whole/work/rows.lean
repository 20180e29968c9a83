section
-- ===== PART A: goes FIRST, ahead of the names: the tables' words, and 'selects' of the private methods out of them =====
/-- a private method of a class that the tables say can be made, by its rows of tables_1 -/
def lw_okq (q : MethodName × Nat) : Prop := (q.1.cls ≠ "java/lang/invoke/MethodHandle" ∧ q.1.cls ≠ "java/lang/invoke/VarHandle") ∧ Cond.instantiable q.1.cls q.2 ∈ tables_1 ∧ Cond.privateMethod q.1 ∈ tables_1 ∧ Cond.instanceMethod q.1 ∈ tables_1
theorem lw_p0 : lw_okq (⟨"MoorStones$Reader", "toNextToken", "()V"⟩, 5) := ⟨⟨by decide +kernel, by decide +kernel⟩, List.mem_of_getElem? (i := 25) (by decide +kernel), List.mem_of_getElem? (i := 240) (by decide +kernel), List.mem_of_getElem? (i := 241) (by decide +kernel)⟩
theorem lw_p1 : lw_okq (⟨"MoorStones$Reader", "sortOfDigits", "(I)I"⟩, 5) := ⟨⟨by decide +kernel, by decide +kernel⟩, List.mem_of_getElem? (i := 25) (by decide +kernel), List.mem_of_getElem? (i := 253) (by decide +kernel), List.mem_of_getElem? (i := 254) (by decide +kernel)⟩
theorem lw_p2 : lw_okq (⟨"MoorStones$Reader", "readItem", "(LMoorStones$Told;)Z"⟩, 5) := ⟨⟨by decide +kernel, by decide +kernel⟩, List.mem_of_getElem? (i := 25) (by decide +kernel), List.mem_of_getElem? (i := 257) (by decide +kernel), List.mem_of_getElem? (i := 258) (by decide +kernel)⟩
theorem lw_p3 : lw_okq (⟨"MoorStones$Reader", "isWord", "(Ljava/lang/String;)Z"⟩, 5) := ⟨⟨by decide +kernel, by decide +kernel⟩, List.mem_of_getElem? (i := 25) (by decide +kernel), List.mem_of_getElem? (i := 262) (by decide +kernel), List.mem_of_getElem? (i := 263) (by decide +kernel)⟩
theorem lw_p4 : lw_okq (⟨"MoorStones$Reader", "readRow", "(LMoorStones$Told;)Z"⟩, 5) := ⟨⟨by decide +kernel, by decide +kernel⟩, List.mem_of_getElem? (i := 25) (by decide +kernel), List.mem_of_getElem? (i := 314) (by decide +kernel), List.mem_of_getElem? (i := 315) (by decide +kernel)⟩
theorem lw_p5 : lw_okq (⟨"MoorStones$Reader", "readWalker", "(LMoorStones$Told;)Z"⟩, 5) := ⟨⟨by decide +kernel, by decide +kernel⟩, List.mem_of_getElem? (i := 25) (by decide +kernel), List.mem_of_getElem? (i := 331) (by decide +kernel), List.mem_of_getElem? (i := 332) (by decide +kernel)⟩
theorem lw_p6 : lw_okq (⟨"MoorStones$Reader", "isNumberTo", "(I)Z"⟩, 5) := ⟨⟨by decide +kernel, by decide +kernel⟩, List.mem_of_getElem? (i := 25) (by decide +kernel), List.mem_of_getElem? (i := 335) (by decide +kernel), List.mem_of_getElem? (i := 336) (by decide +kernel)⟩
theorem lw_p7 : lw_okq (⟨"MoorStones$Reader", "readSink", "(LMoorStones$Told;)Z"⟩, 5) := ⟨⟨by decide +kernel, by decide +kernel⟩, List.mem_of_getElem? (i := 25) (by decide +kernel), List.mem_of_getElem? (i := 345) (by decide +kernel), List.mem_of_getElem? (i := 346) (by decide +kernel)⟩
theorem lw_p8 : lw_okq (⟨"MoorStones", "isCell", "(I)Z"⟩, 10) := ⟨⟨by decide +kernel, by decide +kernel⟩, List.mem_of_getElem? (i := 17) (by decide +kernel), List.mem_of_getElem? (i := 379) (by decide +kernel), List.mem_of_getElem? (i := 380) (by decide +kernel)⟩
theorem lw_p9 : lw_okq (⟨"MoorStones", "isWalker", "(I)Z"⟩, 10) := ⟨⟨by decide +kernel, by decide +kernel⟩, List.mem_of_getElem? (i := 17) (by decide +kernel), List.mem_of_getElem? (i := 394) (by decide +kernel), List.mem_of_getElem? (i := 395) (by decide +kernel)⟩
theorem lw_p10 : lw_okq (⟨"MoorStones", "stepsOf", "(I)I"⟩, 10) := ⟨⟨by decide +kernel, by decide +kernel⟩, List.mem_of_getElem? (i := 17) (by decide +kernel), List.mem_of_getElem? (i := 407) (by decide +kernel), List.mem_of_getElem? (i := 408) (by decide +kernel)⟩
theorem lw_p11 : lw_okq (⟨"MoorStones", "bearing", "()I"⟩, 10) := ⟨⟨by decide +kernel, by decide +kernel⟩, List.mem_of_getElem? (i := 17) (by decide +kernel), List.mem_of_getElem? (i := 411) (by decide +kernel), List.mem_of_getElem? (i := 412) (by decide +kernel)⟩
theorem lw_p12 : lw_okq (⟨"MoorStones", "goAndLay", "(II)I"⟩, 10) := ⟨⟨by decide +kernel, by decide +kernel⟩, List.mem_of_getElem? (i := 17) (by decide +kernel), List.mem_of_getElem? (i := 425) (by decide +kernel), List.mem_of_getElem? (i := 426) (by decide +kernel)⟩
theorem lw_p13 : lw_okq (⟨"MoorStones", "likedBy", "(I)I"⟩, 10) := ⟨⟨by decide +kernel, by decide +kernel⟩, List.mem_of_getElem? (i := 17) (by decide +kernel), List.mem_of_getElem? (i := 446) (by decide +kernel), List.mem_of_getElem? (i := 447) (by decide +kernel)⟩
theorem lw_p14 : lw_okq (⟨"MoorStones$Plans", "joinsAll", "(II)Z"⟩, 2) := ⟨⟨by decide +kernel, by decide +kernel⟩, List.mem_of_getElem? (i := 114) (by decide +kernel), List.mem_of_getElem? (i := 503) (by decide +kernel), List.mem_of_getElem? (i := 504) (by decide +kernel)⟩
theorem lw_p15 : lw_okq (⟨"MoorStones$Plans", "bestOfNext", "(II)I"⟩, 2) := ⟨⟨by decide +kernel, by decide +kernel⟩, List.mem_of_getElem? (i := 114) (by decide +kernel), List.mem_of_getElem? (i := 524) (by decide +kernel), List.mem_of_getElem? (i := 525) (by decide +kernel)⟩
def lw_privs_1 : List (MethodName × Nat) := [(⟨"MoorStones$Reader", "toNextToken", "()V"⟩, 5), (⟨"MoorStones$Reader", "sortOfDigits", "(I)I"⟩, 5), (⟨"MoorStones$Reader", "readItem", "(LMoorStones$Told;)Z"⟩, 5), (⟨"MoorStones$Reader", "isWord", "(Ljava/lang/String;)Z"⟩, 5), (⟨"MoorStones$Reader", "readRow", "(LMoorStones$Told;)Z"⟩, 5), (⟨"MoorStones$Reader", "readWalker", "(LMoorStones$Told;)Z"⟩, 5), (⟨"MoorStones$Reader", "isNumberTo", "(I)Z"⟩, 5), (⟨"MoorStones$Reader", "readSink", "(LMoorStones$Told;)Z"⟩, 5), (⟨"MoorStones", "isCell", "(I)Z"⟩, 10), (⟨"MoorStones", "isWalker", "(I)Z"⟩, 10), (⟨"MoorStones", "stepsOf", "(I)I"⟩, 10), (⟨"MoorStones", "bearing", "()I"⟩, 10), (⟨"MoorStones", "goAndLay", "(II)I"⟩, 10), (⟨"MoorStones", "likedBy", "(I)I"⟩, 10), (⟨"MoorStones$Plans", "joinsAll", "(II)Z"⟩, 2), (⟨"MoorStones$Plans", "bestOfNext", "(II)I"⟩, 2)]
theorem lw_r1 : ∀ q ∈ lw_privs_1, lw_okq q := List.forall_mem_cons.mpr ⟨lw_p0, List.forall_mem_cons.mpr ⟨lw_p1, List.forall_mem_cons.mpr ⟨lw_p2, List.forall_mem_cons.mpr ⟨lw_p3, List.forall_mem_cons.mpr ⟨lw_p4, List.forall_mem_cons.mpr ⟨lw_p5, List.forall_mem_cons.mpr ⟨lw_p6, List.forall_mem_cons.mpr ⟨lw_p7, List.forall_mem_cons.mpr ⟨lw_p8, List.forall_mem_cons.mpr ⟨lw_p9, List.forall_mem_cons.mpr ⟨lw_p10, List.forall_mem_cons.mpr ⟨lw_p11, List.forall_mem_cons.mpr ⟨lw_p12, List.forall_mem_cons.mpr ⟨lw_p13, List.forall_mem_cons.mpr ⟨lw_p14, List.forall_mem_cons.mpr ⟨lw_p15, fun _ h => absurd h List.not_mem_nil⟩⟩⟩⟩⟩⟩⟩⟩⟩⟩⟩⟩⟩⟩⟩⟩
theorem lw_p16 : lw_okq (⟨"MoorStones", "rateWalker", "(I)I"⟩, 10) := ⟨⟨by decide +kernel, by decide +kernel⟩, List.mem_of_getElem? (i := 17) (by decide +kernel), List.mem_of_getElem? (i := 549) (by decide +kernel), List.mem_of_getElem? (i := 550) (by decide +kernel)⟩
theorem lw_p17 : lw_okq (⟨"MoorStones", "ratePilgrim", "(I)I"⟩, 10) := ⟨⟨by decide +kernel, by decide +kernel⟩, List.mem_of_getElem? (i := 17) (by decide +kernel), List.mem_of_getElem? (i := 554) (by decide +kernel), List.mem_of_getElem? (i := 555) (by decide +kernel)⟩
theorem lw_p18 : lw_okq (⟨"MoorStones", "rateShepherd", "(I)I"⟩, 10) := ⟨⟨by decide +kernel, by decide +kernel⟩, List.mem_of_getElem? (i := 17) (by decide +kernel), List.mem_of_getElem? (i := 559) (by decide +kernel), List.mem_of_getElem? (i := 560) (by decide +kernel)⟩
theorem lw_p19 : lw_okq (⟨"MoorStones", "rateMonk", "(I)I"⟩, 10) := ⟨⟨by decide +kernel, by decide +kernel⟩, List.mem_of_getElem? (i := 17) (by decide +kernel), List.mem_of_getElem? (i := 564) (by decide +kernel), List.mem_of_getElem? (i := 565) (by decide +kernel)⟩
theorem lw_p20 : lw_okq (⟨"MoorStones", "rateThief", "(I)I"⟩, 10) := ⟨⟨by decide +kernel, by decide +kernel⟩, List.mem_of_getElem? (i := 17) (by decide +kernel), List.mem_of_getElem? (i := 569) (by decide +kernel), List.mem_of_getElem? (i := 570) (by decide +kernel)⟩
theorem lw_p21 : lw_okq (⟨"MoorStones", "rateChild", "(I)I"⟩, 10) := ⟨⟨by decide +kernel, by decide +kernel⟩, List.mem_of_getElem? (i := 17) (by decide +kernel), List.mem_of_getElem? (i := 574) (by decide +kernel), List.mem_of_getElem? (i := 575) (by decide +kernel)⟩
theorem lw_p22 : lw_okq (⟨"MoorStones", "imageOf", "(I)LMoorStones$Now;"⟩, 10) := ⟨⟨by decide +kernel, by decide +kernel⟩, List.mem_of_getElem? (i := 17) (by decide +kernel), List.mem_of_getElem? (i := 583) (by decide +kernel), List.mem_of_getElem? (i := 584) (by decide +kernel)⟩
theorem lw_p23 : lw_okq (⟨"MoorStonesModel", "reads", "()I"⟩, 27) := ⟨⟨by decide +kernel, by decide +kernel⟩, List.mem_of_getElem? (i := 604) (by decide +kernel), List.mem_of_getElem? (i := 709) (by decide +kernel), List.mem_of_getElem? (i := 710) (by decide +kernel)⟩
theorem lw_p24 : lw_okq (⟨"MoorStonesModel", "token", "()V"⟩, 27) := ⟨⟨by decide +kernel, by decide +kernel⟩, List.mem_of_getElem? (i := 604) (by decide +kernel), List.mem_of_getElem? (i := 713) (by decide +kernel), List.mem_of_getElem? (i := 714) (by decide +kernel)⟩
theorem lw_p25 : lw_okq (⟨"MoorStonesModel", "byteAt", "(I)I"⟩, 27) := ⟨⟨by decide +kernel, by decide +kernel⟩, List.mem_of_getElem? (i := 604) (by decide +kernel), List.mem_of_getElem? (i := 717) (by decide +kernel), List.mem_of_getElem? (i := 718) (by decide +kernel)⟩
theorem lw_p26 : lw_okq (⟨"MoorStonesModel", "verb", "()I"⟩, 27) := ⟨⟨by decide +kernel, by decide +kernel⟩, List.mem_of_getElem? (i := 604) (by decide +kernel), List.mem_of_getElem? (i := 724) (by decide +kernel), List.mem_of_getElem? (i := 725) (by decide +kernel)⟩
theorem lw_p27 : lw_okq (⟨"MoorStonesModel", "readsRow", "()Z"⟩, 27) := ⟨⟨by decide +kernel, by decide +kernel⟩, List.mem_of_getElem? (i := 604) (by decide +kernel), List.mem_of_getElem? (i := 732) (by decide +kernel), List.mem_of_getElem? (i := 733) (by decide +kernel)⟩
theorem lw_p28 : lw_okq (⟨"MoorStonesModel", "readsWalker", "()Z"⟩, 27) := ⟨⟨by decide +kernel, by decide +kernel⟩, List.mem_of_getElem? (i := 604) (by decide +kernel), List.mem_of_getElem? (i := 736) (by decide +kernel), List.mem_of_getElem? (i := 737) (by decide +kernel)⟩
theorem lw_p29 : lw_okq (⟨"MoorStonesModel", "number", "(I)I"⟩, 27) := ⟨⟨by decide +kernel, by decide +kernel⟩, List.mem_of_getElem? (i := 604) (by decide +kernel), List.mem_of_getElem? (i := 740) (by decide +kernel), List.mem_of_getElem? (i := 741) (by decide +kernel)⟩
theorem lw_p30 : lw_okq (⟨"MoorStonesModel", "readsSink", "()Z"⟩, 27) := ⟨⟨by decide +kernel, by decide +kernel⟩, List.mem_of_getElem? (i := 604) (by decide +kernel), List.mem_of_getElem? (i := 744) (by decide +kernel), List.mem_of_getElem? (i := 745) (by decide +kernel)⟩
theorem lw_p31 : lw_okq (⟨"MoorStonesModel", "begins", "()V"⟩, 27) := ⟨⟨by decide +kernel, by decide +kernel⟩, List.mem_of_getElem? (i := 604) (by decide +kernel), List.mem_of_getElem? (i := 748) (by decide +kernel), List.mem_of_getElem? (i := 749) (by decide +kernel)⟩
def lw_privs_2 : List (MethodName × Nat) := [(⟨"MoorStones", "rateWalker", "(I)I"⟩, 10), (⟨"MoorStones", "ratePilgrim", "(I)I"⟩, 10), (⟨"MoorStones", "rateShepherd", "(I)I"⟩, 10), (⟨"MoorStones", "rateMonk", "(I)I"⟩, 10), (⟨"MoorStones", "rateThief", "(I)I"⟩, 10), (⟨"MoorStones", "rateChild", "(I)I"⟩, 10), (⟨"MoorStones", "imageOf", "(I)LMoorStones$Now;"⟩, 10), (⟨"MoorStonesModel", "reads", "()I"⟩, 27), (⟨"MoorStonesModel", "token", "()V"⟩, 27), (⟨"MoorStonesModel", "byteAt", "(I)I"⟩, 27), (⟨"MoorStonesModel", "verb", "()I"⟩, 27), (⟨"MoorStonesModel", "readsRow", "()Z"⟩, 27), (⟨"MoorStonesModel", "readsWalker", "()Z"⟩, 27), (⟨"MoorStonesModel", "number", "(I)I"⟩, 27), (⟨"MoorStonesModel", "readsSink", "()Z"⟩, 27), (⟨"MoorStonesModel", "begins", "()V"⟩, 27)]
theorem lw_r2 : ∀ q ∈ lw_privs_2, lw_okq q := List.forall_mem_cons.mpr ⟨lw_p16, List.forall_mem_cons.mpr ⟨lw_p17, List.forall_mem_cons.mpr ⟨lw_p18, List.forall_mem_cons.mpr ⟨lw_p19, List.forall_mem_cons.mpr ⟨lw_p20, List.forall_mem_cons.mpr ⟨lw_p21, List.forall_mem_cons.mpr ⟨lw_p22, List.forall_mem_cons.mpr ⟨lw_p23, List.forall_mem_cons.mpr ⟨lw_p24, List.forall_mem_cons.mpr ⟨lw_p25, List.forall_mem_cons.mpr ⟨lw_p26, List.forall_mem_cons.mpr ⟨lw_p27, List.forall_mem_cons.mpr ⟨lw_p28, List.forall_mem_cons.mpr ⟨lw_p29, List.forall_mem_cons.mpr ⟨lw_p30, List.forall_mem_cons.mpr ⟨lw_p31, fun _ h => absurd h List.not_mem_nil⟩⟩⟩⟩⟩⟩⟩⟩⟩⟩⟩⟩⟩⟩⟩⟩
theorem lw_p32 : lw_okq (⟨"MoorStonesModel", "isCell", "(I)Z"⟩, 27) := ⟨⟨by decide +kernel, by decide +kernel⟩, List.mem_of_getElem? (i := 604) (by decide +kernel), List.mem_of_getElem? (i := 756) (by decide +kernel), List.mem_of_getElem? (i := 757) (by decide +kernel)⟩
theorem lw_p33 : lw_okq (⟨"MoorStonesModel", "isWalker", "(I)Z"⟩, 27) := ⟨⟨by decide +kernel, by decide +kernel⟩, List.mem_of_getElem? (i := 604) (by decide +kernel), List.mem_of_getElem? (i := 764) (by decide +kernel), List.mem_of_getElem? (i := 765) (by decide +kernel)⟩
theorem lw_p34 : lw_okq (⟨"MoorStonesModel", "laidBy", "(I)I"⟩, 27) := ⟨⟨by decide +kernel, by decide +kernel⟩, List.mem_of_getElem? (i := 604) (by decide +kernel), List.mem_of_getElem? (i := 768) (by decide +kernel), List.mem_of_getElem? (i := 769) (by decide +kernel)⟩
theorem lw_p35 : lw_okq (⟨"MoorStonesModel", "stepsOf", "(II)I"⟩, 27) := ⟨⟨by decide +kernel, by decide +kernel⟩, List.mem_of_getElem? (i := 604) (by decide +kernel), List.mem_of_getElem? (i := 776) (by decide +kernel), List.mem_of_getElem? (i := 777) (by decide +kernel)⟩
theorem lw_p36 : lw_okq (⟨"MoorStonesModel", "measures", "(I)V"⟩, 27) := ⟨⟨by decide +kernel, by decide +kernel⟩, List.mem_of_getElem? (i := 604) (by decide +kernel), List.mem_of_getElem? (i := 780) (by decide +kernel), List.mem_of_getElem? (i := 781) (by decide +kernel)⟩
theorem lw_p37 : lw_okq (⟨"MoorStonesModel", "isStep", "(II)Z"⟩, 27) := ⟨⟨by decide +kernel, by decide +kernel⟩, List.mem_of_getElem? (i := 604) (by decide +kernel), List.mem_of_getElem? (i := 784) (by decide +kernel), List.mem_of_getElem? (i := 785) (by decide +kernel)⟩
theorem lw_p38 : lw_okq (⟨"MoorStonesModel", "passesAndLays", "(II)V"⟩, 27) := ⟨⟨by decide +kernel, by decide +kernel⟩, List.mem_of_getElem? (i := 604) (by decide +kernel), List.mem_of_getElem? (i := 791) (by decide +kernel), List.mem_of_getElem? (i := 792) (by decide +kernel)⟩
theorem lw_p39 : lw_okq (⟨"MoorStonesModel", "onward", "(I)I"⟩, 27) := ⟨⟨by decide +kernel, by decide +kernel⟩, List.mem_of_getElem? (i := 604) (by decide +kernel), List.mem_of_getElem? (i := 795) (by decide +kernel), List.mem_of_getElem? (i := 796) (by decide +kernel)⟩
theorem lw_p40 : lw_okq (⟨"MoorStonesModel", "likesOf", "(I)I"⟩, 27) := ⟨⟨by decide +kernel, by decide +kernel⟩, List.mem_of_getElem? (i := 604) (by decide +kernel), List.mem_of_getElem? (i := 803) (by decide +kernel), List.mem_of_getElem? (i := 804) (by decide +kernel)⟩
theorem lw_p41 : lw_okq (⟨"MoorStonesModel", "many", "(I)I"⟩, 27) := ⟨⟨by decide +kernel, by decide +kernel⟩, List.mem_of_getElem? (i := 604) (by decide +kernel), List.mem_of_getElem? (i := 811) (by decide +kernel), List.mem_of_getElem? (i := 812) (by decide +kernel)⟩
theorem lw_p42 : lw_okq (⟨"MoorStonesModel", "passedInAll", "()I"⟩, 27) := ⟨⟨by decide +kernel, by decide +kernel⟩, List.mem_of_getElem? (i := 604) (by decide +kernel), List.mem_of_getElem? (i := 815) (by decide +kernel), List.mem_of_getElem? (i := 816) (by decide +kernel)⟩
theorem lw_p43 : lw_okq (⟨"MoorStonesModel", "costs", "(II)I"⟩, 27) := ⟨⟨by decide +kernel, by decide +kernel⟩, List.mem_of_getElem? (i := 604) (by decide +kernel), List.mem_of_getElem? (i := 835) (by decide +kernel), List.mem_of_getElem? (i := 836) (by decide +kernel)⟩
theorem lw_p44 : lw_okq (⟨"MoorStonesModel", "listsBogs", "()I"⟩, 27) := ⟨⟨by decide +kernel, by decide +kernel⟩, List.mem_of_getElem? (i := 604) (by decide +kernel), List.mem_of_getElem? (i := 843) (by decide +kernel), List.mem_of_getElem? (i := 844) (by decide +kernel)⟩
theorem lw_p45 : lw_okq (⟨"MoorStonesModel", "nears", "()V"⟩, 27) := ⟨⟨by decide +kernel, by decide +kernel⟩, List.mem_of_getElem? (i := 604) (by decide +kernel), List.mem_of_getElem? (i := 847) (by decide +kernel), List.mem_of_getElem? (i := 848) (by decide +kernel)⟩
theorem lw_p46 : lw_okq (⟨"MoorStonesModel", "joins", "(II)I"⟩, 27) := ⟨⟨by decide +kernel, by decide +kernel⟩, List.mem_of_getElem? (i := 604) (by decide +kernel), List.mem_of_getElem? (i := 851) (by decide +kernel), List.mem_of_getElem? (i := 852) (by decide +kernel)⟩
theorem lw_p47 : lw_okq (⟨"MoorStonesModel", "chosen", "(II)I"⟩, 27) := ⟨⟨by decide +kernel, by decide +kernel⟩, List.mem_of_getElem? (i := 604) (by decide +kernel), List.mem_of_getElem? (i := 855) (by decide +kernel), List.mem_of_getElem? (i := 856) (by decide +kernel)⟩
def lw_privs_3 : List (MethodName × Nat) := [(⟨"MoorStonesModel", "isCell", "(I)Z"⟩, 27), (⟨"MoorStonesModel", "isWalker", "(I)Z"⟩, 27), (⟨"MoorStonesModel", "laidBy", "(I)I"⟩, 27), (⟨"MoorStonesModel", "stepsOf", "(II)I"⟩, 27), (⟨"MoorStonesModel", "measures", "(I)V"⟩, 27), (⟨"MoorStonesModel", "isStep", "(II)Z"⟩, 27), (⟨"MoorStonesModel", "passesAndLays", "(II)V"⟩, 27), (⟨"MoorStonesModel", "onward", "(I)I"⟩, 27), (⟨"MoorStonesModel", "likesOf", "(I)I"⟩, 27), (⟨"MoorStonesModel", "many", "(I)I"⟩, 27), (⟨"MoorStonesModel", "passedInAll", "()I"⟩, 27), (⟨"MoorStonesModel", "costs", "(II)I"⟩, 27), (⟨"MoorStonesModel", "listsBogs", "()I"⟩, 27), (⟨"MoorStonesModel", "nears", "()V"⟩, 27), (⟨"MoorStonesModel", "joins", "(II)I"⟩, 27), (⟨"MoorStonesModel", "chosen", "(II)I"⟩, 27)]
theorem lw_r3 : ∀ q ∈ lw_privs_3, lw_okq q := List.forall_mem_cons.mpr ⟨lw_p32, List.forall_mem_cons.mpr ⟨lw_p33, List.forall_mem_cons.mpr ⟨lw_p34, List.forall_mem_cons.mpr ⟨lw_p35, List.forall_mem_cons.mpr ⟨lw_p36, List.forall_mem_cons.mpr ⟨lw_p37, List.forall_mem_cons.mpr ⟨lw_p38, List.forall_mem_cons.mpr ⟨lw_p39, List.forall_mem_cons.mpr ⟨lw_p40, List.forall_mem_cons.mpr ⟨lw_p41, List.forall_mem_cons.mpr ⟨lw_p42, List.forall_mem_cons.mpr ⟨lw_p43, List.forall_mem_cons.mpr ⟨lw_p44, List.forall_mem_cons.mpr ⟨lw_p45, List.forall_mem_cons.mpr ⟨lw_p46, List.forall_mem_cons.mpr ⟨lw_p47, fun _ h => absurd h List.not_mem_nil⟩⟩⟩⟩⟩⟩⟩⟩⟩⟩⟩⟩⟩⟩⟩⟩
theorem lw_p48 : lw_okq (⟨"MoorStonesModel", "bearing", "()I"⟩, 27) := ⟨⟨by decide +kernel, by decide +kernel⟩, List.mem_of_getElem? (i := 604) (by decide +kernel), List.mem_of_getElem? (i := 859) (by decide +kernel), List.mem_of_getElem? (i := 860) (by decide +kernel)⟩
theorem lw_p49 : lw_okq (⟨"MoorStonesModel", "reached", "(II)I"⟩, 27) := ⟨⟨by decide +kernel, by decide +kernel⟩, List.mem_of_getElem? (i := 604) (by decide +kernel), List.mem_of_getElem? (i := 866) (by decide +kernel), List.mem_of_getElem? (i := 867) (by decide +kernel)⟩
def lw_privs_4 : List (MethodName × Nat) := [(⟨"MoorStonesModel", "bearing", "()I"⟩, 27), (⟨"MoorStonesModel", "reached", "(II)I"⟩, 27)]
theorem lw_r4 : ∀ q ∈ lw_privs_4, lw_okq q := List.forall_mem_cons.mpr ⟨lw_p48, List.forall_mem_cons.mpr ⟨lw_p49, fun _ h => absurd h List.not_mem_nil⟩⟩
def lw_privs : List (MethodName × Nat) := lw_privs_1 ++ (lw_privs_2 ++ (lw_privs_3 ++ (lw_privs_4)))
def lw_tbl : List Cond := k2_sels lw_privs ++ tables_1
theorem lw_privs_ok : ∀ q ∈ lw_privs, lw_okq q := by
  show ∀ q ∈ lw_privs_1 ++ (lw_privs_2 ++ (lw_privs_3 ++ (lw_privs_4))), lw_okq q
  exact List.forall_mem_append.mpr ⟨lw_r1, List.forall_mem_append.mpr ⟨lw_r2, List.forall_mem_append.mpr ⟨lw_r3, lw_r4⟩⟩⟩
-- ===== end of PART A; then your names; then what follows =====
/-! ===== BEGIN words of one list among another's, by their places ===== -/
theorem goodIn_r {big : List Cond} (ws : List Cond) (ps : List Nat) (hp : ws = ps.filterMap (fun i => big[i]?)) (h : ws.all goodWord = true) : GoodIn big ws := by
  intro w hw
  have h1 := List.all_eq_true.mp h w hw
  rw [hp] at hw
  obtain ⟨i, -, hi⟩ := List.mem_filterMap.mp hw
  have hm : w ∈ big := by first | exact List.mem_of_getElem? hi | exact List.getElem?_mem hi
  exact ⟨hm, good_of_word h1⟩
theorem goodIn_app {big a b : List Cond} (ha : GoodIn big a) (hb : GoodIn big b) : GoodIn big (a ++ b) := fun w h => (List.mem_append.mp h).elim (ha w) (hb w)
theorem goodIn_ca {big a b : List Cond} {c : Cond} (ha : GoodIn big (c :: a)) (hb : GoodIn big b) : GoodIn big (c :: (a ++ b)) := fun w h => (List.mem_cons.mp h).elim (fun e => ha w (List.mem_cons.mpr (Or.inl e))) (fun h => (List.mem_append.mp h).elim (fun h => ha w (List.mem_cons.mpr (Or.inr h))) (hb w))
theorem goodIn_sub {big ws : List Cond} (hm : ∀ w ∈ ws, w ∈ big) (h : ws.all goodWord = true) : GoodIn big ws := fun w hw => ⟨hm w hw, good_of_word (List.all_eq_true.mp h w hw)⟩
/-! ===== END ===== -/

/-! ===== BEGIN printed: names, fields, word lists, decode rows ===== -/
def RX0 : String := "MoorStones$Now"
def TX0 : u_T := fun k => match k with
  | 0 => ("MoorStones$Now", "bog", "I", false)
  | 1 => ("MoorStones$Now", "stones", "I", false)
  | 2 => ("MoorStones$Now", "bears", "[I", true)
  | 3 => ("MoorStones$Now", "layers", "[I", true)
  | 4 => ("MoorStones$Now", "passed", "[I", true)
  | _ => ("MoorStones$Now", "isKept", "Z", false)
def tyX0 : Nat → FieldType := fun k => match k with
  | 0 => .int
  | 1 => .int
  | 2 => .array .int
  | 3 => .array .int
  | 4 => .array .int
  | _ => .boolean
abbrev wsX00 : List Cond := u_ws RX0 TX0 6
theorem nmX0 : ∀ a, a < 6 → ∀ b, b < 6 → a ≠ b → (TX0 a).2.1 ≠ (TX0 b).2.1 := by decide +kernel
theorem tyX0_ok : ∀ k, k < 6 → parseFieldDescriptor (TX0 k).2.2.1 = some (tyX0 k) := by decide +kernel
abbrev cX0_init : ByteArray := prog_2_method_1_code
def yX0_init : MethodName := ⟨RX0, "<init>", "()V"⟩
abbrev cX0_beginAsTold : ByteArray := prog_2_method_2_code
def yX0_beginAsTold : MethodName := ⟨RX0, "beginAsTold", "(LMoorStones$Told;)V"⟩
abbrev cX0_copy : ByteArray := prog_2_method_3_code
def yX0_copy : MethodName := ⟨RX0, "copy", "(LMoorStones$Now;)V"⟩
abbrev cX0_groundOf : ByteArray := prog_2_method_4_code
def yX0_groundOf : MethodName := ⟨RX0, "groundOf", "(I)I"⟩
abbrev cX0_laidBy : ByteArray := prog_2_method_5_code
def yX0_laidBy : MethodName := ⟨RX0, "laidBy", "(I)I"⟩
abbrev cX0_passedByAll : ByteArray := prog_2_method_6_code
def yX0_passedByAll : MethodName := ⟨RX0, "passedByAll", "()I"⟩
abbrev cX0_stepOn : ByteArray := prog_2_method_7_code
def yX0_stepOn : MethodName := ⟨RX0, "stepOn", "(I)V"⟩
abbrev cX0_lay : ByteArray := prog_2_method_8_code
def yX0_lay : MethodName := ⟨RX0, "lay", "(III)V"⟩
def RX1 : String := "MoorStones$Plans"
def TX1 : u_T := fun k => match k with
  | 0 => ("MoorStones$Plans", "ways", "LMoorStones$Ways;", true)
  | _ => ("MoorStones$Plans", "laidTill", "[I", true)
def tyX1 : Nat → FieldType := fun k => match k with
  | 0 => .object "MoorStones$Ways"
  | _ => .array .int
abbrev wsX10 : List Cond := u_ws RX1 TX1 2
theorem nmX1 : ∀ a, a < 2 → ∀ b, b < 2 → a ≠ b → (TX1 a).2.1 ≠ (TX1 b).2.1 := by decide +kernel
theorem tyX1_ok : ∀ k, k < 2 → parseFieldDescriptor (TX1 k).2.2.1 = some (tyX1 k) := by decide +kernel
abbrev cX1_init : ByteArray := prog_3_method_1_code
def yX1_init : MethodName := ⟨RX1, "<init>", "()V"⟩
abbrev cX1_bestToLay : ByteArray := prog_3_method_2_code
def yX1_bestToLay : MethodName := ⟨RX1, "bestToLay", "(IIII)I"⟩
abbrev cX1_leastJoining : ByteArray := prog_3_method_3_code
def yX1_leastJoining : MethodName := ⟨RX1, "leastJoining", "(III)I"⟩
abbrev cX1_joinsAll : ByteArray := prog_3_method_4_code
def yX1_joinsAll : MethodName := ⟨RX1, "joinsAll", "(II)Z"⟩
abbrev cX1_laidByTurns : ByteArray := prog_3_method_5_code
def yX1_laidByTurns : MethodName := ⟨RX1, "laidByTurns", "(IIII)I"⟩
abbrev cX1_bestOfNext : ByteArray := prog_3_method_6_code
def yX1_bestOfNext : MethodName := ⟨RX1, "bestOfNext", "(II)I"⟩
abbrev cX1_fewestApart : ByteArray := prog_3_method_7_code
def yX1_fewestApart : MethodName := ⟨RX1, "fewestApart", "(III)I"⟩
def RX2 : String := "MoorStones$Reader"
def TX2 : u_T := fun k => match k with
  | 0 => ("MoorStones$Reader", "text", "LMoorStones$Text;", true)
  | 1 => ("MoorStones$Reader", "start", "I", false)
  | 2 => ("MoorStones$Reader", "behind", "I", false)
  | 3 => ("MoorStones$Reader", "sort", "I", false)
  | _ => ("MoorStones$Reader", "number", "I", false)
def tyX2 : Nat → FieldType := fun k => match k with
  | 0 => .object "MoorStones$Text"
  | 1 => .int
  | 2 => .int
  | 3 => .int
  | _ => .int
abbrev wsX20 : List Cond := u_ws RX2 TX2 5
theorem nmX2 : ∀ a, a < 5 → ∀ b, b < 5 → a ≠ b → (TX2 a).2.1 ≠ (TX2 b).2.1 := by decide +kernel
theorem tyX2_ok : ∀ k, k < 5 → parseFieldDescriptor (TX2 k).2.2.1 = some (tyX2 k) := by decide +kernel
abbrev cX2_init : ByteArray := prog_4_method_1_code
def yX2_init : MethodName := ⟨RX2, "<init>", "()V"⟩
abbrev cX2_readInto : ByteArray := prog_4_method_2_code
def yX2_readInto : MethodName := ⟨RX2, "readInto", "(LMoorStones$Told;)I"⟩
abbrev cX2_readItem : ByteArray := prog_4_method_3_code
def yX2_readItem : MethodName := ⟨RX2, "readItem", "(LMoorStones$Told;)Z"⟩
abbrev cX2_readRow : ByteArray := prog_4_method_4_code
def yX2_readRow : MethodName := ⟨RX2, "readRow", "(LMoorStones$Told;)Z"⟩
abbrev cX2_readWalker : ByteArray := prog_4_method_5_code
def yX2_readWalker : MethodName := ⟨RX2, "readWalker", "(LMoorStones$Told;)Z"⟩
abbrev cX2_readSink : ByteArray := prog_4_method_6_code
def yX2_readSink : MethodName := ⟨RX2, "readSink", "(LMoorStones$Told;)Z"⟩
abbrev cX2_isNumberTo : ByteArray := prog_4_method_7_code
def yX2_isNumberTo : MethodName := ⟨RX2, "isNumberTo", "(I)Z"⟩
abbrev cX2_isWord : ByteArray := prog_4_method_8_code
def yX2_isWord : MethodName := ⟨RX2, "isWord", "(Ljava/lang/String;)Z"⟩
abbrev cX2_toNextToken : ByteArray := prog_4_method_9_code
def yX2_toNextToken : MethodName := ⟨RX2, "toNextToken", "()V"⟩
abbrev cX2_sortOfDigits : ByteArray := prog_4_method_10_code
def yX2_sortOfDigits : MethodName := ⟨RX2, "sortOfDigits", "(I)I"⟩
def RX3 : String := "MoorStones$Text"
def TX3 : u_T := fun k => match k with
  | 0 => ("MoorStones$Text", "bytes", "[I", true)
  | _ => ("MoorStones$Text", "length", "I", false)
def tyX3 : Nat → FieldType := fun k => match k with
  | 0 => .array .int
  | _ => .int
abbrev wsX30 : List Cond := u_ws RX3 TX3 2
theorem nmX3 : ∀ a, a < 2 → ∀ b, b < 2 → a ≠ b → (TX3 a).2.1 ≠ (TX3 b).2.1 := by decide +kernel
theorem tyX3_ok : ∀ k, k < 2 → parseFieldDescriptor (TX3 k).2.2.1 = some (tyX3 k) := by decide +kernel
abbrev cX3_init : ByteArray := prog_5_method_1_code
def yX3_init : MethodName := ⟨RX3, "<init>", "()V"⟩
abbrev cX3_add : ByteArray := prog_5_method_2_code
def yX3_add : MethodName := ⟨RX3, "add", "(I)V"⟩
abbrev cX3_empty : ByteArray := prog_5_method_3_code
def yX3_empty : MethodName := ⟨RX3, "empty", "()I"⟩
abbrev cX3_byteAt : ByteArray := prog_5_method_4_code
def yX3_byteAt : MethodName := ⟨RX3, "byteAt", "(I)I"⟩
abbrev cX3_behindRun : ByteArray := prog_5_method_5_code
def yX3_behindRun : MethodName := ⟨RX3, "behindRun", "(ICC)I"⟩
def RX4 : String := "MoorStones$Told"
def TX4 : u_T := fun k => match k with
  | 0 => ("MoorStones$Told", "wide", "I", false)
  | 1 => ("MoorStones$Told", "high", "I", false)
  | 2 => ("MoorStones$Told", "cells", "I", false)
  | 3 => ("MoorStones$Told", "bog", "I", false)
  | 4 => ("MoorStones$Told", "stones", "I", false)
  | 5 => ("MoorStones$Told", "sink", "I", false)
  | 6 => ("MoorStones$Told", "sinkTold", "Z", false)
  | 7 => ("MoorStones$Told", "walkers", "I", false)
  | 8 => ("MoorStones$Told", "from", "[I", true)
  | _ => ("MoorStones$Told", "to", "[I", true)
def tyX4 : Nat → FieldType := fun k => match k with
  | 0 => .int
  | 1 => .int
  | 2 => .int
  | 3 => .int
  | 4 => .int
  | 5 => .int
  | 6 => .boolean
  | 7 => .int
  | 8 => .array .int
  | _ => .array .int
abbrev wsX40 : List Cond := u_ws RX4 TX4 10
theorem nmX4 : ∀ a, a < 10 → ∀ b, b < 10 → a ≠ b → (TX4 a).2.1 ≠ (TX4 b).2.1 := by decide +kernel
theorem tyX4_ok : ∀ k, k < 10 → parseFieldDescriptor (TX4 k).2.2.1 = some (tyX4 k) := by decide +kernel
abbrev cX4_init : ByteArray := prog_6_method_1_code
def yX4_init : MethodName := ⟨RX4, "<init>", "()V"⟩
abbrev cX4_empty : ByteArray := prog_6_method_2_code
def yX4_empty : MethodName := ⟨RX4, "empty", "()V"⟩
abbrev cX4_copy : ByteArray := prog_6_method_3_code
def yX4_copy : MethodName := ⟨RX4, "copy", "(LMoorStones$Told;)V"⟩
abbrev cX4_takesRow : ByteArray := prog_6_method_4_code
def yX4_takesRow : MethodName := ⟨RX4, "takesRow", "()Z"⟩
abbrev cX4_beginRow : ByteArray := prog_6_method_5_code
def yX4_beginRow : MethodName := ⟨RX4, "beginRow", "(I)Z"⟩
abbrev cX4_addCell : ByteArray := prog_6_method_6_code
def yX4_addCell : MethodName := ⟨RX4, "addCell", "(I)Z"⟩
abbrev cX4_addWalker : ByteArray := prog_6_method_7_code
def yX4_addWalker : MethodName := ⟨RX4, "addWalker", "(II)V"⟩
def RX5 : String := "MoorStones$Ways"
def TX5 : u_T := fun k => match k with
  | 0 => ("MoorStones$Ways", "wide", "I", false)
  | 1 => ("MoorStones$Ways", "all", "I", false)
  | 2 => ("MoorStones$Ways", "firstColumn", "I", false)
  | _ => ("MoorStones$Ways", "lastColumn", "I", false)
def tyX5 : Nat → FieldType := fun k => match k with
  | 0 => .int
  | 1 => .int
  | 2 => .int
  | _ => .int
abbrev wsX50 : List Cond := u_ws RX5 TX5 4
theorem nmX5 : ∀ a, a < 4 → ∀ b, b < 4 → a ≠ b → (TX5 a).2.1 ≠ (TX5 b).2.1 := by decide +kernel
theorem tyX5_ok : ∀ k, k < 4 → parseFieldDescriptor (TX5 k).2.2.1 = some (tyX5 k) := by decide +kernel
abbrev cX5_init : ByteArray := prog_7_method_1_code
def yX5_init : MethodName := ⟨RX5, "<init>", "()V"⟩
abbrev cX5_measure : ByteArray := prog_7_method_2_code
def yX5_measure : MethodName := ⟨RX5, "measure", "(II)V"⟩
abbrev cX5_near : ByteArray := prog_7_method_3_code
def yX5_near : MethodName := ⟨RX5, "near", "(I)I"⟩
abbrev cX5_spread : ByteArray := prog_7_method_4_code
def yX5_spread : MethodName := ⟨RX5, "spread", "(II)I"⟩
abbrev cX5_joins : ByteArray := prog_7_method_5_code
def yX5_joins : MethodName := ⟨RX5, "joins", "(III)Z"⟩
abbrev cX5_fewestSteps : ByteArray := prog_7_method_6_code
def yX5_fewestSteps : MethodName := ⟨RX5, "fewestSteps", "(III)I"⟩
abbrev cX5_nextCell : ByteArray := prog_7_method_7_code
def yX5_nextCell : MethodName := ⟨RX5, "nextCell", "(III)I"⟩
abbrev cX5_fewestStones : ByteArray := prog_7_method_8_code
def yX5_fewestStones : MethodName := ⟨RX5, "fewestStones", "(III)I"⟩
def RX6 : String := "MoorStones"
def TX6 : u_T := fun k => match k with
  | 0 => ("MoorStones", "reader", "LMoorStones$Reader;", true)
  | 1 => ("MoorStones", "text", "LMoorStones$Text;", true)
  | 2 => ("MoorStones", "told", "LMoorStones$Told;", true)
  | 3 => ("MoorStones", "draft", "LMoorStones$Told;", true)
  | 4 => ("MoorStones", "plans", "LMoorStones$Plans;", true)
  | 5 => ("MoorStones", "ways", "LMoorStones$Ways;", true)
  | 6 => ("MoorStones", "current", "LMoorStones$Now;", true)
  | 7 => ("MoorStones", "imageZero", "LMoorStones$Now;", true)
  | 8 => ("MoorStones", "imageOne", "LMoorStones$Now;", true)
  | _ => ("MoorStones", "traced", "J", false)
def tyX6 : Nat → FieldType := fun k => match k with
  | 0 => .object "MoorStones$Reader"
  | 1 => .object "MoorStones$Text"
  | 2 => .object "MoorStones$Told"
  | 3 => .object "MoorStones$Told"
  | 4 => .object "MoorStones$Plans"
  | 5 => .object "MoorStones$Ways"
  | 6 => .object "MoorStones$Now"
  | 7 => .object "MoorStones$Now"
  | 8 => .object "MoorStones$Now"
  | _ => .long
abbrev wsX60 : List Cond := u_ws RX6 TX6 10
theorem nmX6 : ∀ a, a < 10 → ∀ b, b < 10 → a ≠ b → (TX6 a).2.1 ≠ (TX6 b).2.1 := by decide +kernel
theorem tyX6_ok : ∀ k, k < 10 → parseFieldDescriptor (TX6 k).2.2.1 = some (tyX6 k) := by decide +kernel
abbrev cX6_init : ByteArray := prog_1_method_1_code
def yX6_init : MethodName := ⟨RX6, "<init>", "()V"⟩
abbrev cX6_type : ByteArray := prog_1_method_2_code
def yX6_type : MethodName := ⟨RX6, "type", "(JI)I"⟩
abbrev cX6_clear : ByteArray := prog_1_method_3_code
def yX6_clear : MethodName := ⟨RX6, "clear", "()I"⟩
abbrev cX6_moor : ByteArray := prog_1_method_4_code
def yX6_moor : MethodName := ⟨RX6, "moor", "()I"⟩
abbrev cX6_cell : ByteArray := prog_1_method_5_code
def yX6_cell : MethodName := ⟨RX6, "cell", "(II)I"⟩
abbrev cX6_walker : ByteArray := prog_1_method_6_code
def yX6_walker : MethodName := ⟨RX6, "walker", "(II)I"⟩
abbrev cX6_passes : ByteArray := prog_1_method_7_code
def yX6_passes : MethodName := ⟨RX6, "passes", "(II)I"⟩
abbrev cX6_days : ByteArray := prog_1_method_8_code
def yX6_days : MethodName := ⟨RX6, "days", "(I)I"⟩
abbrev cX6_now : ByteArray := prog_1_method_9_code
def yX6_now : MethodName := ⟨RX6, "now", "(I)I"⟩
abbrev cX6_anew : ByteArray := prog_1_method_10_code
def yX6_anew : MethodName := ⟨RX6, "anew", "()I"⟩
abbrev cX6_steps : ByteArray := prog_1_method_11_code
def yX6_steps : MethodName := ⟨RX6, "steps", "(II)I"⟩
abbrev cX6_way : ByteArray := prog_1_method_12_code
def yX6_way : MethodName := ⟨RX6, "way", "(III)I"⟩
abbrev cX6_stones : ByteArray := prog_1_method_13_code
def yX6_stones : MethodName := ⟨RX6, "stones", "(II)I"⟩
abbrev cX6_joined : ByteArray := prog_1_method_14_code
def yX6_joined : MethodName := ⟨RX6, "joined", "(II)I"⟩
abbrev cX6_likes : ByteArray := prog_1_method_15_code
def yX6_likes : MethodName := ⟨RX6, "likes", "(I)I"⟩
abbrev cX6_byTurns : ByteArray := prog_1_method_16_code
def yX6_byTurns : MethodName := ⟨RX6, "byTurns", "(II)I"⟩
abbrev cX6_apart : ByteArray := prog_1_method_17_code
def yX6_apart : MethodName := ⟨RX6, "apart", "(II)I"⟩
abbrev cX6_rate : ByteArray := prog_1_method_18_code
def yX6_rate : MethodName := ⟨RX6, "rate", "(II)I"⟩
abbrev cX6_keep : ByteArray := prog_1_method_19_code
def yX6_keep : MethodName := ⟨RX6, "keep", "(I)I"⟩
abbrev cX6_back : ByteArray := prog_1_method_20_code
def yX6_back : MethodName := ⟨RX6, "back", "(I)I"⟩
abbrev cX6_count : ByteArray := prog_1_method_21_code
def yX6_count : MethodName := ⟨RX6, "count", "(I)I"⟩
abbrev cX6_trace : ByteArray := prog_1_method_22_code
def yX6_trace : MethodName := ⟨RX6, "trace", "()J"⟩
abbrev cX6_isCell : ByteArray := prog_1_method_23_code
def yX6_isCell : MethodName := ⟨RX6, "isCell", "(I)Z"⟩
abbrev cX6_isWalker : ByteArray := prog_1_method_24_code
def yX6_isWalker : MethodName := ⟨RX6, "isWalker", "(I)Z"⟩
abbrev cX6_imageOf : ByteArray := prog_1_method_25_code
def yX6_imageOf : MethodName := ⟨RX6, "imageOf", "(I)LMoorStones$Now;"⟩
abbrev cX6_bearing : ByteArray := prog_1_method_26_code
def yX6_bearing : MethodName := ⟨RX6, "bearing", "()I"⟩
abbrev cX6_stepsOf : ByteArray := prog_1_method_27_code
def yX6_stepsOf : MethodName := ⟨RX6, "stepsOf", "(I)I"⟩
abbrev cX6_likedBy : ByteArray := prog_1_method_28_code
def yX6_likedBy : MethodName := ⟨RX6, "likedBy", "(I)I"⟩
abbrev cX6_goAndLay : ByteArray := prog_1_method_29_code
def yX6_goAndLay : MethodName := ⟨RX6, "goAndLay", "(II)I"⟩
abbrev cX6_rateWalker : ByteArray := prog_1_method_30_code
def yX6_rateWalker : MethodName := ⟨RX6, "rateWalker", "(I)I"⟩
abbrev cX6_ratePilgrim : ByteArray := prog_1_method_31_code
def yX6_ratePilgrim : MethodName := ⟨RX6, "ratePilgrim", "(I)I"⟩
abbrev cX6_rateShepherd : ByteArray := prog_1_method_32_code
def yX6_rateShepherd : MethodName := ⟨RX6, "rateShepherd", "(I)I"⟩
abbrev cX6_rateMonk : ByteArray := prog_1_method_33_code
def yX6_rateMonk : MethodName := ⟨RX6, "rateMonk", "(I)I"⟩
abbrev cX6_rateThief : ByteArray := prog_1_method_34_code
def yX6_rateThief : MethodName := ⟨RX6, "rateThief", "(I)I"⟩
abbrev cX6_rateChild : ByteArray := prog_1_method_35_code
def yX6_rateChild : MethodName := ⟨RX6, "rateChild", "(I)I"⟩
abbrev cX6_at : ByteArray := prog_1_method_36_code
def yX6_at : MethodName := ⟨RX6, "at", "([II)I"⟩
abbrev cX6_put : ByteArray := prog_1_method_37_code
def yX6_put : MethodName := ⟨RX6, "put", "([III)V"⟩
abbrev cX6_copyRow : ByteArray := prog_1_method_38_code
def yX6_copyRow : MethodName := ⟨RX6, "copyRow", "([I[I)V"⟩
abbrev cX6_has : ByteArray := prog_1_method_39_code
def yX6_has : MethodName := ⟨RX6, "has", "(II)Z"⟩
def RX7 : String := "MoorStonesModel"
def TX7 : u_T := fun k => match k with
  | 0 => ("MoorStonesModel", "thrown", "I", false)
  | 1 => ("MoorStonesModel", "trace", "J", false)
  | 2 => ("MoorStonesModel", "text", "[I", true)
  | 3 => ("MoorStonesModel", "typed", "I", false)
  | 4 => ("MoorStonesModel", "told", "[I", true)
  | 5 => ("MoorStonesModel", "draft", "[I", true)
  | 6 => ("MoorStonesModel", "ends", "[I", true)
  | 7 => ("MoorStonesModel", "draftEnds", "[I", true)
  | 8 => ("MoorStonesModel", "wide", "I", false)
  | 9 => ("MoorStonesModel", "high", "I", false)
  | 10 => ("MoorStonesModel", "walkers", "I", false)
  | 11 => ("MoorStonesModel", "sink", "I", false)
  | 12 => ("MoorStonesModel", "draftWide", "I", false)
  | 13 => ("MoorStonesModel", "draftHigh", "I", false)
  | 14 => ("MoorStonesModel", "draftWalkers", "I", false)
  | 15 => ("MoorStonesModel", "draftSink", "I", false)
  | 16 => ("MoorStonesModel", "s", "[I", true)
  | 17 => ("MoorStonesModel", "images", "[I", true)
  | 18 => ("MoorStonesModel", "kept", "[Z", true)
  | 19 => ("MoorStonesModel", "at", "I", false)
  | 20 => ("MoorStonesModel", "sort", "I", false)
  | 21 => ("MoorStonesModel", "start", "I", false)
  | 22 => ("MoorStonesModel", "size", "I", false)
  | 23 => ("MoorStonesModel", "far", "[I", true)
  | 24 => ("MoorStonesModel", "bogs", "[I", true)
  | 25 => ("MoorStonesModel", "near", "[I", true)
  | _ => ("MoorStonesModel", "worth", "[I", true)
def tyX7 : Nat → FieldType := fun k => match k with
  | 0 => .int
  | 1 => .long
  | 2 => .array .int
  | 3 => .int
  | 4 => .array .int
  | 5 => .array .int
  | 6 => .array .int
  | 7 => .array .int
  | 8 => .int
  | 9 => .int
  | 10 => .int
  | 11 => .int
  | 12 => .int
  | 13 => .int
  | 14 => .int
  | 15 => .int
  | 16 => .array .int
  | 17 => .array .int
  | 18 => .array .boolean
  | 19 => .int
  | 20 => .int
  | 21 => .int
  | 22 => .int
  | 23 => .array .int
  | 24 => .array .int
  | 25 => .array .int
  | _ => .array .int
abbrev wsX70 : List Cond := u_ws RX7 TX7 27
theorem nmX7 : ∀ a, a < 27 → ∀ b, b < 27 → a ≠ b → (TX7 a).2.1 ≠ (TX7 b).2.1 := by decide +kernel
theorem tyX7_ok : ∀ k, k < 27 → parseFieldDescriptor (TX7 k).2.2.1 = some (tyX7 k) := by decide +kernel
abbrev cX7_init : ByteArray := prog_9_method_1_code
def yX7_init : MethodName := ⟨RX7, "<init>", "()V"⟩
abbrev cX7_in : ByteArray := prog_9_method_3_code
def yX7_in : MethodName := ⟨RX7, "in", "(III)Z"⟩
abbrev cX7_isCell : ByteArray := prog_9_method_4_code
def yX7_isCell : MethodName := ⟨RX7, "isCell", "(I)Z"⟩
abbrev cX7_isWalker : ByteArray := prog_9_method_5_code
def yX7_isWalker : MethodName := ⟨RX7, "isWalker", "(I)Z"⟩
abbrev cX7_type : ByteArray := prog_9_method_6_code
def yX7_type : MethodName := ⟨RX7, "type", "(JI)I"⟩
abbrev cX7_clear : ByteArray := prog_9_method_7_code
def yX7_clear : MethodName := ⟨RX7, "clear", "()I"⟩
abbrev cX7_byteAt : ByteArray := prog_9_method_8_code
def yX7_byteAt : MethodName := ⟨RX7, "byteAt", "(I)I"⟩
abbrev cX7_sortOf : ByteArray := prog_9_method_9_code
def yX7_sortOf : MethodName := ⟨RX7, "sortOf", "(I)I"⟩
abbrev cX7_token : ByteArray := prog_9_method_10_code
def yX7_token : MethodName := ⟨RX7, "token", "()V"⟩
abbrev cX7_verb : ByteArray := prog_9_method_11_code
def yX7_verb : MethodName := ⟨RX7, "verb", "()I"⟩
abbrev cX7_number : ByteArray := prog_9_method_12_code
def yX7_number : MethodName := ⟨RX7, "number", "(I)I"⟩
abbrev cX7_readsRow : ByteArray := prog_9_method_13_code
def yX7_readsRow : MethodName := ⟨RX7, "readsRow", "()Z"⟩
abbrev cX7_readsWalker : ByteArray := prog_9_method_14_code
def yX7_readsWalker : MethodName := ⟨RX7, "readsWalker", "()Z"⟩
abbrev cX7_readsSink : ByteArray := prog_9_method_15_code
def yX7_readsSink : MethodName := ⟨RX7, "readsSink", "()Z"⟩
abbrev cX7_reads : ByteArray := prog_9_method_16_code
def yX7_reads : MethodName := ⟨RX7, "reads", "()I"⟩
abbrev cX7_begins : ByteArray := prog_9_method_17_code
def yX7_begins : MethodName := ⟨RX7, "begins", "()V"⟩
abbrev cX7_moor : ByteArray := prog_9_method_18_code
def yX7_moor : MethodName := ⟨RX7, "moor", "()I"⟩
abbrev cX7_cell : ByteArray := prog_9_method_19_code
def yX7_cell : MethodName := ⟨RX7, "cell", "(II)I"⟩
abbrev cX7_laidBy : ByteArray := prog_9_method_20_code
def yX7_laidBy : MethodName := ⟨RX7, "laidBy", "(I)I"⟩
abbrev cX7_walker : ByteArray := prog_9_method_21_code
def yX7_walker : MethodName := ⟨RX7, "walker", "(II)I"⟩
abbrev cX7_apartBy : ByteArray := prog_9_method_22_code
def yX7_apartBy : MethodName := ⟨RX7, "apartBy", "(II)I"⟩
abbrev cX7_isStep : ByteArray := prog_9_method_23_code
def yX7_isStep : MethodName := ⟨RX7, "isStep", "(II)Z"⟩
abbrev cX7_measures : ByteArray := prog_9_method_24_code
def yX7_measures : MethodName := ⟨RX7, "measures", "(I)V"⟩
abbrev cX7_onward : ByteArray := prog_9_method_25_code
def yX7_onward : MethodName := ⟨RX7, "onward", "(I)I"⟩
abbrev cX7_stepsOf : ByteArray := prog_9_method_26_code
def yX7_stepsOf : MethodName := ⟨RX7, "stepsOf", "(II)I"⟩
abbrev cX7_passesAndLays : ByteArray := prog_9_method_27_code
def yX7_passesAndLays : MethodName := ⟨RX7, "passesAndLays", "(II)V"⟩
abbrev cX7_passes : ByteArray := prog_9_method_28_code
def yX7_passes : MethodName := ⟨RX7, "passes", "(II)I"⟩
abbrev cX7_likesOf : ByteArray := prog_9_method_29_code
def yX7_likesOf : MethodName := ⟨RX7, "likesOf", "(I)I"⟩
abbrev cX7_days : ByteArray := prog_9_method_30_code
def yX7_days : MethodName := ⟨RX7, "days", "(I)I"⟩
abbrev cX7_passedInAll : ByteArray := prog_9_method_31_code
def yX7_passedInAll : MethodName := ⟨RX7, "passedInAll", "()I"⟩
abbrev cX7_many : ByteArray := prog_9_method_32_code
def yX7_many : MethodName := ⟨RX7, "many", "(I)I"⟩
abbrev cX7_now : ByteArray := prog_9_method_33_code
def yX7_now : MethodName := ⟨RX7, "now", "(I)I"⟩
abbrev cX7_anew : ByteArray := prog_9_method_34_code
def yX7_anew : MethodName := ⟨RX7, "anew", "()I"⟩
abbrev cX7_steps : ByteArray := prog_9_method_35_code
def yX7_steps : MethodName := ⟨RX7, "steps", "(II)I"⟩
abbrev cX7_way : ByteArray := prog_9_method_36_code
def yX7_way : MethodName := ⟨RX7, "way", "(III)I"⟩
abbrev cX7_costs : ByteArray := prog_9_method_37_code
def yX7_costs : MethodName := ⟨RX7, "costs", "(II)I"⟩
abbrev cX7_stones : ByteArray := prog_9_method_38_code
def yX7_stones : MethodName := ⟨RX7, "stones", "(II)I"⟩
abbrev cX7_bearing : ByteArray := prog_9_method_39_code
def yX7_bearing : MethodName := ⟨RX7, "bearing", "()I"⟩
abbrev cX7_listsBogs : ByteArray := prog_9_method_40_code
def yX7_listsBogs : MethodName := ⟨RX7, "listsBogs", "()I"⟩
abbrev cX7_chosen : ByteArray := prog_9_method_41_code
def yX7_chosen : MethodName := ⟨RX7, "chosen", "(II)I"⟩
abbrev cX7_nears : ByteArray := prog_9_method_42_code
def yX7_nears : MethodName := ⟨RX7, "nears", "()V"⟩
abbrev cX7_reached : ByteArray := prog_9_method_43_code
def yX7_reached : MethodName := ⟨RX7, "reached", "(II)I"⟩
abbrev cX7_ones : ByteArray := prog_9_method_44_code
def yX7_ones : MethodName := ⟨RX7, "ones", "(I)I"⟩
abbrev cX7_joins : ByteArray := prog_9_method_45_code
def yX7_joins : MethodName := ⟨RX7, "joins", "(II)I"⟩
abbrev cX7_joined : ByteArray := prog_9_method_46_code
def yX7_joined : MethodName := ⟨RX7, "joined", "(II)I"⟩
abbrev cX7_likes : ByteArray := prog_9_method_47_code
def yX7_likes : MethodName := ⟨RX7, "likes", "(I)I"⟩
abbrev cX7_byTurns : ByteArray := prog_9_method_48_code
def yX7_byTurns : MethodName := ⟨RX7, "byTurns", "(II)I"⟩
abbrev cX7_apart : ByteArray := prog_9_method_49_code
def yX7_apart : MethodName := ⟨RX7, "apart", "(II)I"⟩
abbrev cX7_rate : ByteArray := prog_9_method_50_code
def yX7_rate : MethodName := ⟨RX7, "rate", "(II)I"⟩
abbrev cX7_keep : ByteArray := prog_9_method_51_code
def yX7_keep : MethodName := ⟨RX7, "keep", "(I)I"⟩
abbrev cX7_back : ByteArray := prog_9_method_52_code
def yX7_back : MethodName := ⟨RX7, "back", "(I)I"⟩
abbrev cX7_count : ByteArray := prog_9_method_53_code
def yX7_count : MethodName := ⟨RX7, "count", "(I)I"⟩
abbrev cX7_trace : ByteArray := prog_9_method_54_code
def yX7_trace : MethodName := ⟨RX7, "trace", "()J"⟩
def RJ6 : String := "java/lang/Integer"
def TJ6 : u_T := fun k => match k with
  | _ => ("", "", "", false)
def tyJ6 : Nat → FieldType := fun k => match k with
  | _ => .int
abbrev wsJ60 : List Cond := u_ws RJ6 TJ6 0
theorem nmJ6 : ∀ a, a < 0 → ∀ b, b < 0 → a ≠ b → (TJ6 a).2.1 ≠ (TJ6 b).2.1 := by decide +kernel
theorem tyJ6_ok : ∀ k, k < 0 → parseFieldDescriptor (TJ6 k).2.2.1 = some (tyJ6 k) := by decide +kernel
abbrev cJ6_bitCount_0f7a4 : ByteArray := prog_10_method_49_code
def yJ6_bitCount_0f7a4 : MethodName := ⟨RJ6, "bitCount", "(I)I"⟩
def RJ9 : String := "java/lang/Math"
def TJ9 : u_T := fun k => match k with
  | _ => ("", "", "", false)
def tyJ9 : Nat → FieldType := fun k => match k with
  | _ => .int
abbrev wsJ90 : List Cond := u_ws RJ9 TJ9 0
theorem nmJ9 : ∀ a, a < 0 → ∀ b, b < 0 → a ≠ b → (TJ9 a).2.1 ≠ (TJ9 b).2.1 := by decide +kernel
theorem tyJ9_ok : ∀ k, k < 0 → parseFieldDescriptor (TJ9 k).2.2.1 = some (tyJ9 k) := by decide +kernel
abbrev cJ9_max_7cf53 : ByteArray := prog_11_method_65_code
def yJ9_max_7cf53 : MethodName := ⟨RJ9, "max", "(II)I"⟩
abbrev cJ9_min_7cf53 : ByteArray := prog_11_method_69_code
def yJ9_min_7cf53 : MethodName := ⟨RJ9, "min", "(II)I"⟩
def RJ0 : String := "java/lang/String"
def TJ0 : u_T := fun k => match k with
  | _ => ("", "", "", false)
def tyJ0 : Nat → FieldType := fun k => match k with
  | _ => .int
abbrev wsJ00 : List Cond := u_ws RJ0 TJ0 0
theorem nmJ0 : ∀ a, a < 0 → ∀ b, b < 0 → a ≠ b → (TJ0 a).2.1 ≠ (TJ0 b).2.1 := by decide +kernel
theorem tyJ0_ok : ∀ k, k < 0 → parseFieldDescriptor (TJ0 k).2.2.1 = some (tyJ0 k) := by decide +kernel
abbrev cJ0_length_8abf5 : ByteArray := prog_12_method_54_code
def yJ0_length_8abf5 : MethodName := ⟨RJ0, "length", "()I"⟩
abbrev cJ0_charAt_5068e : ByteArray := prog_12_method_56_code
def yJ0_charAt_5068e : MethodName := ⟨RJ0, "charAt", "(I)C"⟩
abbrev cJ0_coder_7d493 : ByteArray := prog_12_method_152_code
def yJ0_coder_7d493 : MethodName := ⟨RJ0, "coder", "()B"⟩
abbrev cJ0_isLatin1_aae02 : ByteArray := prog_12_method_154_code
def yJ0_isLatin1_aae02 : MethodName := ⟨RJ0, "isLatin1", "()Z"⟩
abbrev cJ0_checkIndex_df160 : ByteArray := prog_12_method_155_code
def yJ0_checkIndex_df160 : MethodName := ⟨RJ0, "checkIndex", "(II)V"⟩
def RJ1 : String := "java/lang/StringLatin1"
def TJ1 : u_T := fun k => match k with
  | _ => ("", "", "", false)
def tyJ1 : Nat → FieldType := fun k => match k with
  | _ => .int
abbrev wsJ10 : List Cond := u_ws RJ1 TJ1 0
theorem nmJ1 : ∀ a, a < 0 → ∀ b, b < 0 → a ≠ b → (TJ1 a).2.1 ≠ (TJ1 b).2.1 := by decide +kernel
theorem tyJ1_ok : ∀ k, k < 0 → parseFieldDescriptor (TJ1 k).2.2.1 = some (tyJ1 k) := by decide +kernel
abbrev cJ1_charAt_3b067 : ByteArray := prog_13_method_2_code
def yJ1_charAt_3b067 : MethodName := ⟨RJ1, "charAt", "([BI)C"⟩
def RJ2 : String := "java/lang/StringUTF16"
def TJ2 : u_T := fun k => match k with
  | _ => ("", "", "", false)
def tyJ2 : Nat → FieldType := fun k => match k with
  | _ => .int
abbrev wsJ20 : List Cond := u_ws RJ2 TJ2 0
theorem nmJ2 : ∀ a, a < 0 → ∀ b, b < 0 → a ≠ b → (TJ2 a).2.1 ≠ (TJ2 b).2.1 := by decide +kernel
theorem tyJ2_ok : ∀ k, k < 0 → parseFieldDescriptor (TJ2 k).2.2.1 = some (tyJ2 k) := by decide +kernel
abbrev cJ2_getChar_3b067 : ByteArray := prog_14_method_5_code
def yJ2_getChar_3b067 : MethodName := ⟨RJ2, "getChar", "([BI)C"⟩
abbrev cJ2_length_9d52b : ByteArray := prog_14_method_6_code
def yJ2_length_9d52b : MethodName := ⟨RJ2, "length", "([B)I"⟩
abbrev cJ2_charAt_3b067 : ByteArray := prog_14_method_83_code
def yJ2_charAt_3b067 : MethodName := ⟨RJ2, "charAt", "([BI)C"⟩
abbrev cJ2_checkIndex_2214a : ByteArray := prog_14_method_91_code
def yJ2_checkIndex_2214a : MethodName := ⟨RJ2, "checkIndex", "(I[B)V"⟩
def RJ10 : String := "java/lang/System"
def TJ10 : u_T := fun k => match k with
  | _ => ("", "", "", false)
def tyJ10 : Nat → FieldType := fun k => match k with
  | _ => .int
abbrev wsJ100 : List Cond := u_ws RJ10 TJ10 0
theorem nmJ10 : ∀ a, a < 0 → ∀ b, b < 0 → a ≠ b → (TJ10 a).2.1 ≠ (TJ10 b).2.1 := by decide +kernel
theorem tyJ10_ok : ∀ k, k < 0 → parseFieldDescriptor (TJ10 k).2.2.1 = some (tyJ10 k) := by decide +kernel
def RJ3 : String := "jdk/internal/util/Preconditions"
def TJ3 : u_T := fun k => match k with
  | _ => ("", "", "", false)
def tyJ3 : Nat → FieldType := fun k => match k with
  | _ => .int
abbrev wsJ30 : List Cond := u_ws RJ3 TJ3 0
theorem nmJ3 : ∀ a, a < 0 → ∀ b, b < 0 → a ≠ b → (TJ3 a).2.1 ≠ (TJ3 b).2.1 := by decide +kernel
theorem tyJ3_ok : ∀ k, k < 0 → parseFieldDescriptor (TJ3 k).2.2.1 = some (tyJ3 k) := by decide +kernel
abbrev cJ3_checkIndex_8e157 : ByteArray := prog_16_method_11_code
def yJ3_checkIndex_8e157 : MethodName := ⟨RJ3, "checkIndex", "(IILjava/util/function/BiFunction;)I"⟩
def RL : String := "MoorStonesLaw"
abbrev cL_law : ByteArray := code
def yL_law : MethodName := ⟨RL, "law", "([I)Z"⟩
def wsL_law_r1 : List Cond := [Cond.classLink RL 7 RX6, Cond.instantiable RX6 10, Cond.initialized RX6, Cond.classLink RL 10 RX7, Cond.instantiable RX7 27, Cond.initialized RX7, Cond.constantLong RL 13 (4294967295), Cond.methodLink RL 9 yX6_init, Cond.instanceMethod yX6_init, Cond.code yX6_init cX6_init 1 none, Cond.methodLink RX6 1 objectInit, Cond.instanceMethod objectInit, Cond.code objectInit ⟨#[0xb1]⟩ 1 none, Cond.classLink RX6 7 RX2, Cond.instantiable RX2 5, Cond.initialized RX2, Cond.fieldLink RX6 10 "MoorStones" "reader" "LMoorStones$Reader;", Cond.fieldLink RX6 20 "MoorStones" "text" "LMoorStones$Text;", Cond.classLink RX6 21 RX4, Cond.instantiable RX4 10, Cond.initialized RX4, Cond.fieldLink RX6 24 "MoorStones" "told" "LMoorStones$Told;", Cond.fieldLink RX6 28 "MoorStones" "draft" "LMoorStones$Told;", Cond.classLink RX6 31 RX1]
def wsL_law_r2 : List Cond := [Cond.instantiable RX1 2, Cond.initialized RX1, Cond.fieldLink RX6 34 "MoorStones" "plans" "LMoorStones$Plans;", Cond.fieldLink RX6 42 "MoorStones" "ways" "LMoorStones$Ways;", Cond.classLink RX6 43 RX0, Cond.instantiable RX0 6, Cond.initialized RX0, Cond.fieldLink RX6 46 "MoorStones" "current" "LMoorStones$Now;", Cond.fieldLink RX6 50 "MoorStones" "imageZero" "LMoorStones$Now;", Cond.fieldLink RX6 53 "MoorStones" "imageOne" "LMoorStones$Now;", Cond.fieldLink RX6 56 "MoorStones" "traced" "J", Cond.methodLink RX6 9 yX2_init, Cond.instanceMethod yX2_init, Cond.code yX2_init cX2_init 1 none, Cond.methodLink RX2 3 objectInit, Cond.classLink RX2 9 RX3, Cond.instantiable RX3 2, Cond.initialized RX3, Cond.fieldLink RX2 12 "MoorStones$Reader" "text" "LMoorStones$Text;", Cond.methodLink RX2 11 yX3_init, Cond.instanceMethod yX3_init, Cond.code yX3_init cX3_init 1 none, Cond.methodLink RX3 3 objectInit, Cond.arrayClass .int]
def wsL_law_r3 : List Cond := [Cond.fieldLink RX3 9 "MoorStones$Text" "bytes" "[I", Cond.fieldLink RX3 15 "MoorStones$Text" "length" "I", Cond.methodLink RX6 23 yX4_init, Cond.instanceMethod yX4_init, Cond.code yX4_init cX4_init 1 none, Cond.methodLink RX4 3 objectInit, Cond.fieldLink RX4 9 "MoorStones$Told" "from" "[I", Cond.fieldLink RX4 15 "MoorStones$Told" "to" "[I", Cond.methodLink RX6 33 yX1_init, Cond.instanceMethod yX1_init, Cond.code yX1_init cX1_init 1 none, Cond.methodLink RX1 3 objectInit, Cond.classLink RX1 9 RX5, Cond.instantiable RX5 4, Cond.initialized RX5, Cond.fieldLink RX1 12 "MoorStones$Plans" "ways" "LMoorStones$Ways;", Cond.fieldLink RX1 18 "MoorStones$Plans" "laidTill" "[I", Cond.instanceMethod yX5_init, Cond.code yX5_init cX5_init 1 none, Cond.methodLink RX5 3 objectInit, Cond.methodLink RX6 45 yX0_init, Cond.instanceMethod yX0_init, Cond.code yX0_init cX0_init 1 none, Cond.methodLink RX0 3 objectInit]
def wsL_law_r4 : List Cond := [Cond.fieldLink RX0 9 "MoorStones$Now" "bears" "[I", Cond.fieldLink RX0 15 "MoorStones$Now" "layers" "[I", Cond.fieldLink RX0 18 "MoorStones$Now" "passed" "[I", Cond.methodLink RL 12 yX7_init, Cond.instanceMethod yX7_init, Cond.code yX7_init cX7_init 1 none, Cond.methodLink RX7 1 objectInit, Cond.fieldLink RX7 7 "MoorStonesModel" "text" "[I", Cond.fieldLink RX7 13 "MoorStonesModel" "told" "[I", Cond.fieldLink RX7 16 "MoorStonesModel" "draft" "[I", Cond.fieldLink RX7 19 "MoorStonesModel" "ends" "[I", Cond.fieldLink RX7 22 "MoorStonesModel" "draftEnds" "[I", Cond.fieldLink RX7 25 "MoorStonesModel" "s" "[I", Cond.fieldLink RX7 28 "MoorStonesModel" "images" "[I", Cond.arrayClass .boolean, Cond.fieldLink RX7 31 "MoorStonesModel" "kept" "[Z", Cond.fieldLink RX7 35 "MoorStonesModel" "far" "[I", Cond.fieldLink RX7 38 "MoorStonesModel" "bogs" "[I", Cond.fieldLink RX7 41 "MoorStonesModel" "near" "[I", Cond.fieldLink RX7 44 "MoorStonesModel" "worth" "[I", Cond.fieldLink RX7 47 "MoorStonesModel" "thrown" "I", Cond.methodLink RL 15 yX6_type, Cond.instanceMethod yX6_type, Cond.selects RX6 yX6_type yX6_type]
def wsL_law_r5 : List Cond := [Cond.code yX6_type cX6_type 5 (some .int), Cond.methodLink RX6 66 yX3_add, Cond.instanceMethod yX3_add, Cond.selects RX3 yX3_add yX3_add, Cond.code yX3_add cX3_add 2 none, Cond.static yX6_put, Cond.code yX6_put cX6_put 3 none, Cond.methodLink RL 19 yX7_type, Cond.instanceMethod yX7_type, Cond.selects RX7 yX7_type yX7_type, Cond.code yX7_type cX7_type 5 (some .int), Cond.fieldLink RX7 64 "MoorStonesModel" "typed" "I", Cond.constantLong RX7 67 (255), Cond.methodLink RX7 57 yX7_in, Cond.static yX7_in, Cond.code yX7_in cX7_in 3 (some .boolean), Cond.methodLink RL 20 yX6_clear, Cond.instanceMethod yX6_clear, Cond.selects RX6 yX6_clear yX6_clear, Cond.code yX6_clear cX6_clear 1 (some .int), Cond.methodLink RX6 70 yX3_empty, Cond.instanceMethod yX3_empty, Cond.selects RX3 yX3_empty yX3_empty, Cond.code yX3_empty cX3_empty 2 (some .int)]
def wsL_law_r6 : List Cond := [Cond.methodLink RL 24 yX7_clear, Cond.instanceMethod yX7_clear, Cond.selects RX7 yX7_clear yX7_clear, Cond.code yX7_clear cX7_clear 2 (some .int), Cond.methodLink RL 25 yX6_moor, Cond.instanceMethod yX6_moor, Cond.selects RX6 yX6_moor yX6_moor, Cond.code yX6_moor cX6_moor 2 (some .int), Cond.methodLink RX6 74 yX2_readInto, Cond.instanceMethod yX2_readInto, Cond.selects RX2 yX2_readInto yX2_readInto, Cond.code yX2_readInto cX2_readInto 3 (some .int), Cond.fieldLink RX2 23 "MoorStones$Reader" "behind" "I", Cond.fieldLink RX2 30 "MoorStones$Reader" "sort" "I", Cond.fieldLink RX2 37 "MoorStones$Reader" "start" "I", Cond.methodLink RX2 18 yX4_empty, Cond.instanceMethod yX4_empty, Cond.selects RX4 yX4_empty yX4_empty, Cond.code yX4_empty cX4_empty 1 none, Cond.fieldLink RX4 18 "MoorStones$Told" "wide" "I", Cond.fieldLink RX4 22 "MoorStones$Told" "high" "I", Cond.fieldLink RX4 25 "MoorStones$Told" "cells" "I", Cond.fieldLink RX4 28 "MoorStones$Told" "bog" "I", Cond.fieldLink RX4 31 "MoorStones$Told" "stones" "I"]
def wsL_law_r7 : List Cond := [Cond.fieldLink RX4 34 "MoorStones$Told" "sink" "I", Cond.fieldLink RX4 37 "MoorStones$Told" "sinkTold" "Z", Cond.fieldLink RX4 41 "MoorStones$Told" "walkers" "I", Cond.methodLink RX2 27 yX2_toNextToken, Cond.instanceMethod yX2_toNextToken, Cond.selects RX2 yX2_toNextToken yX2_toNextToken, Cond.code yX2_toNextToken cX2_toNextToken 2 none, Cond.methodLink RX2 106 yX3_behindRun, Cond.instanceMethod yX3_behindRun, Cond.selects RX3 yX3_behindRun yX3_behindRun, Cond.code yX3_behindRun cX3_behindRun 5 (some .int), Cond.methodLink RX3 23 yX3_byteAt, Cond.instanceMethod yX3_byteAt, Cond.selects RX3 yX3_byteAt yX3_byteAt, Cond.code yX3_byteAt cX3_byteAt 2 (some .int), Cond.methodLink RX2 67 yX3_byteAt, Cond.methodLink RX2 110 yX2_sortOfDigits, Cond.instanceMethod yX2_sortOfDigits, Cond.selects RX2 yX2_sortOfDigits yX2_sortOfDigits, Cond.code yX2_sortOfDigits cX2_sortOfDigits 3 (some .int), Cond.fieldLink RX2 83 "MoorStones$Reader" "number" "I", Cond.methodLink RX2 33 yX2_readItem, Cond.instanceMethod yX2_readItem, Cond.selects RX2 yX2_readItem yX2_readItem]
def wsL_law_r8 : List Cond := [Cond.code yX2_readItem cX2_readItem 3 (some .boolean), Cond.methodLink RX2 42 yX2_isWord, Cond.instanceMethod yX2_isWord, Cond.selects RX2 yX2_isWord yX2_isWord, Cond.code yX2_isWord cX2_isWord 3 (some .boolean), Cond.methodLink RX2 96 yJ0_length_8abf5, Cond.instanceMethod yJ0_length_8abf5, Cond.selects RJ0 yJ0_length_8abf5 yJ0_length_8abf5, Cond.initialized RJ0, Cond.code yJ0_length_8abf5 cJ0_length_8abf5 1 (some .int), Cond.fieldLink RJ0 9 "java/lang/String" "value" "[B", Cond.methodLink RJ0 335 yJ0_coder_7d493, Cond.instanceMethod yJ0_coder_7d493, Cond.selects RJ0 yJ0_coder_7d493 yJ0_coder_7d493, Cond.code yJ0_coder_7d493 cJ0_coder_7d493 1 (some .byte), Cond.fieldLink RJ0 38 "java/lang/String" "COMPACT_STRINGS" "Z", Cond.fieldLink RJ0 15 "java/lang/String" "coder" "B", Cond.methodLink RX2 102 yJ0_charAt_5068e, Cond.instanceMethod yJ0_charAt_5068e, Cond.selects RJ0 yJ0_charAt_5068e yJ0_charAt_5068e, Cond.code yJ0_charAt_5068e cJ0_charAt_5068e 2 (some .char), Cond.methodLink RJ0 492 yJ0_isLatin1_aae02, Cond.instanceMethod yJ0_isLatin1_aae02, Cond.selects RJ0 yJ0_isLatin1_aae02 yJ0_isLatin1_aae02]
def wsL_law_r9 : List Cond := [Cond.code yJ0_isLatin1_aae02 cJ0_isLatin1_aae02 1 (some .boolean), Cond.methodLink RJ0 495 yJ1_charAt_3b067, Cond.static yJ1_charAt_3b067, Cond.initialized RJ1, Cond.code yJ1_charAt_3b067 cJ1_charAt_3b067 2 (some .char), Cond.methodLink RJ1 9 yJ0_checkIndex_df160, Cond.static yJ0_checkIndex_df160, Cond.code yJ0_checkIndex_df160 cJ0_checkIndex_df160 2 none, Cond.fieldLink RJ0 1053 "jdk/internal/util/Preconditions" "SIOOBE_FORMATTER" "Ljava/util/function/BiFunction;", Cond.methodLink RJ0 1059 yJ3_checkIndex_8e157, Cond.static yJ3_checkIndex_8e157, Cond.initialized RJ3, Cond.code yJ3_checkIndex_8e157 cJ3_checkIndex_8e157 3 (some .int), Cond.methodLink RJ0 498 yJ2_charAt_3b067, Cond.static yJ2_charAt_3b067, Cond.initialized RJ2, Cond.code yJ2_charAt_3b067 cJ2_charAt_3b067 2 (some .char), Cond.methodLink RJ2 67 yJ2_checkIndex_2214a, Cond.static yJ2_checkIndex_2214a, Cond.code yJ2_checkIndex_2214a cJ2_checkIndex_2214a 2 none, Cond.methodLink RJ2 48 yJ2_length_9d52b, Cond.static yJ2_length_9d52b, Cond.code yJ2_length_9d52b cJ2_length_9d52b 1 (some .int), Cond.methodLink RJ2 414 yJ0_checkIndex_df160]
def wsL_law_r10 : List Cond := [Cond.methodLink RJ2 71 yJ2_getChar_3b067, Cond.static yJ2_getChar_3b067, Cond.code yJ2_getChar_3b067 cJ2_getChar_3b067 2 (some .char), Cond.fieldLink RJ2 44 "java/lang/StringUTF16" "$assertionsDisabled" "Z", Cond.fieldLink RJ2 59 "java/lang/StringUTF16" "HI_BYTE_SHIFT" "I", Cond.fieldLink RJ2 63 "java/lang/StringUTF16" "LO_BYTE_SHIFT" "I", Cond.methodLink RX2 46 yX2_readRow, Cond.instanceMethod yX2_readRow, Cond.selects RX2 yX2_readRow yX2_readRow, Cond.code yX2_readRow cX2_readRow 3 (some .boolean), Cond.methodLink RX2 59 yX4_takesRow, Cond.instanceMethod yX4_takesRow, Cond.selects RX4 yX4_takesRow yX4_takesRow, Cond.code yX4_takesRow cX4_takesRow 1 (some .boolean), Cond.methodLink RX2 63 yX4_beginRow, Cond.instanceMethod yX4_beginRow, Cond.selects RX4 yX4_beginRow yX4_beginRow, Cond.code yX4_beginRow cX4_beginRow 2 (some .boolean), Cond.methodLink RX2 71 yX4_addCell, Cond.instanceMethod yX4_addCell, Cond.selects RX4 yX4_addCell yX4_addCell, Cond.code yX4_addCell cX4_addCell 2 (some .boolean), Cond.methodLink RX2 51 yX2_readWalker, Cond.instanceMethod yX2_readWalker]
def wsL_law_r11 : List Cond := [Cond.selects RX2 yX2_readWalker yX2_readWalker, Cond.code yX2_readWalker cX2_readWalker 3 (some .boolean), Cond.methodLink RX2 80 yX2_isNumberTo, Cond.instanceMethod yX2_isNumberTo, Cond.selects RX2 yX2_isNumberTo yX2_isNumberTo, Cond.code yX2_isNumberTo cX2_isNumberTo 2 (some .boolean), Cond.methodLink RX2 86 yX4_addWalker, Cond.instanceMethod yX4_addWalker, Cond.selects RX4 yX4_addWalker yX4_addWalker, Cond.code yX4_addWalker cX4_addWalker 3 none, Cond.methodLink RX2 56 yX2_readSink, Cond.instanceMethod yX2_readSink, Cond.selects RX2 yX2_readSink yX2_readSink, Cond.code yX2_readSink cX2_readSink 2 (some .boolean), Cond.methodLink RX6 78 yX4_copy, Cond.instanceMethod yX4_copy, Cond.selects RX4 yX4_copy yX4_copy, Cond.code yX4_copy cX4_copy 2 none, Cond.static yX6_copyRow, Cond.code yX6_copyRow cX6_copyRow 2 none, Cond.methodLink RX6 252 Lib.Math.min.name, Cond.static Lib.Math.min.name, Cond.initialized "java/lang/Math", Cond.code Lib.Math.min.name Lib.Math.min.code 2 (some .int)]
def wsL_law_r12 : List Cond := [Cond.methodLink RX6 255 arraycopyName, Cond.native arraycopyName, Cond.static arraycopyName, Cond.initialized "java/lang/System", Cond.methodLink RX6 88 yX5_measure, Cond.instanceMethod yX5_measure, Cond.selects RX5 yX5_measure yX5_measure, Cond.code yX5_measure cX5_measure 4 none, Cond.fieldLink RX5 9 "MoorStones$Ways" "wide" "I", Cond.fieldLink RX5 15 "MoorStones$Ways" "all" "I", Cond.fieldLink RX5 18 "MoorStones$Ways" "firstColumn" "I", Cond.fieldLink RX5 21 "MoorStones$Ways" "lastColumn" "I", Cond.methodLink RX6 94 yX0_beginAsTold, Cond.instanceMethod yX0_beginAsTold, Cond.selects RX0 yX0_beginAsTold yX0_beginAsTold, Cond.code yX0_beginAsTold cX0_beginAsTold 3 none, Cond.fieldLink RX0 27 "MoorStones$Now" "bog" "I", Cond.fieldLink RX0 31 "MoorStones$Now" "stones" "I", Cond.static yX6_has, Cond.code yX6_has cX6_has 2 (some .boolean), Cond.methodLink RL 28 yX7_moor, Cond.instanceMethod yX7_moor, Cond.selects RX7 yX7_moor yX7_moor, Cond.code yX7_moor cX7_moor 3 (some .int)]
def wsL_law_r13 : List Cond := [Cond.fieldLink RX7 76 "MoorStonesModel" "start" "I", Cond.fieldLink RX7 105 "MoorStonesModel" "draftWide" "I", Cond.fieldLink RX7 51 "MoorStonesModel" "wide" "I", Cond.fieldLink RX7 99 "MoorStonesModel" "draftHigh" "I", Cond.fieldLink RX7 54 "MoorStonesModel" "high" "I", Cond.fieldLink RX7 102 "MoorStonesModel" "draftWalkers" "I", Cond.fieldLink RX7 61 "MoorStonesModel" "walkers" "I", Cond.fieldLink RX7 111 "MoorStonesModel" "draftSink" "I", Cond.fieldLink RX7 128 "MoorStonesModel" "sink" "I", Cond.methodLink RX7 131 yX7_reads, Cond.instanceMethod yX7_reads, Cond.selects RX7 yX7_reads yX7_reads, Cond.code yX7_reads cX7_reads 4 (some .int), Cond.fieldLink RX7 69 "MoorStonesModel" "at" "I", Cond.fieldLink RX7 82 "MoorStonesModel" "sort" "I", Cond.methodLink RX7 96 yX7_token, Cond.instanceMethod yX7_token, Cond.selects RX7 yX7_token yX7_token, Cond.code yX7_token cX7_token 1 none, Cond.fieldLink RX7 85 "MoorStonesModel" "size" "I", Cond.methodLink RX7 72 yX7_byteAt, Cond.instanceMethod yX7_byteAt, Cond.selects RX7 yX7_byteAt yX7_byteAt, Cond.code yX7_byteAt cX7_byteAt 2 (some .int)]
def wsL_law_r14 : List Cond := [Cond.methodLink RX7 79 yX7_sortOf, Cond.static yX7_sortOf, Cond.code yX7_sortOf cX7_sortOf 1 (some .int), Cond.methodLink RX7 114 yX7_verb, Cond.instanceMethod yX7_verb, Cond.selects RX7 yX7_verb yX7_verb, Cond.code yX7_verb cX7_verb 4 (some .int), Cond.constantLong RX7 88 (256), Cond.constantLong RX7 90 (7499639), Cond.constantLong RX7 92 (131260314510706), Cond.constantLong RX7 94 (1936289387), Cond.methodLink RX7 118 yX7_readsRow, Cond.instanceMethod yX7_readsRow, Cond.selects RX7 yX7_readsRow yX7_readsRow, Cond.code yX7_readsRow cX7_readsRow 4 (some .boolean), Cond.methodLink RX7 122 yX7_readsWalker, Cond.instanceMethod yX7_readsWalker, Cond.selects RX7 yX7_readsWalker yX7_readsWalker, Cond.code yX7_readsWalker cX7_readsWalker 4 (some .boolean), Cond.methodLink RX7 108 yX7_number, Cond.instanceMethod yX7_number, Cond.selects RX7 yX7_number yX7_number, Cond.code yX7_number cX7_number 3 (some .int), Cond.methodLink RX7 125 yX7_readsSink]
def wsL_law_r15 : List Cond := [Cond.instanceMethod yX7_readsSink, Cond.selects RX7 yX7_readsSink yX7_readsSink, Cond.code yX7_readsSink cX7_readsSink 2 (some .boolean), Cond.methodLink RX7 134 yX7_begins, Cond.instanceMethod yX7_begins, Cond.selects RX7 yX7_begins yX7_begins, Cond.code yX7_begins cX7_begins 2 none, Cond.methodLink RL 29 yX6_cell, Cond.instanceMethod yX6_cell, Cond.selects RX6 yX6_cell yX6_cell, Cond.code yX6_cell cX6_cell 3 (some .int), Cond.methodLink RX6 101 yX6_isCell, Cond.instanceMethod yX6_isCell, Cond.selects RX6 yX6_isCell yX6_isCell, Cond.code yX6_isCell cX6_isCell 2 (some .boolean), Cond.methodLink RX6 105 yX0_groundOf, Cond.instanceMethod yX0_groundOf, Cond.selects RX0 yX0_groundOf yX0_groundOf, Cond.code yX0_groundOf cX0_groundOf 2 (some .int), Cond.methodLink RX6 113 yX6_at, Cond.static yX6_at, Cond.code yX6_at cX6_at 2 (some .int), Cond.methodLink RL 33 yX7_cell, Cond.instanceMethod yX7_cell]
def wsL_law_r16 : List Cond := [Cond.selects RX7 yX7_cell yX7_cell, Cond.code yX7_cell cX7_cell 3 (some .int), Cond.methodLink RX7 137 yX7_isCell, Cond.instanceMethod yX7_isCell, Cond.selects RX7 yX7_isCell yX7_isCell, Cond.code yX7_isCell cX7_isCell 2 (some .boolean), Cond.methodLink RL 34 yX6_walker, Cond.instanceMethod yX6_walker, Cond.selects RX6 yX6_walker yX6_walker, Cond.code yX6_walker cX6_walker 3 (some .int), Cond.methodLink RX6 120 yX6_isWalker, Cond.instanceMethod yX6_isWalker, Cond.selects RX6 yX6_isWalker yX6_isWalker, Cond.code yX6_isWalker cX6_isWalker 2 (some .boolean), Cond.methodLink RX6 132 yX0_laidBy, Cond.instanceMethod yX0_laidBy, Cond.selects RX0 yX0_laidBy yX0_laidBy, Cond.code yX0_laidBy cX0_laidBy 4 (some .int), Cond.methodLink RL 37 yX7_walker, Cond.instanceMethod yX7_walker, Cond.selects RX7 yX7_walker yX7_walker, Cond.code yX7_walker cX7_walker 3 (some .int), Cond.methodLink RX7 141 yX7_isWalker, Cond.instanceMethod yX7_isWalker]
def wsL_law_r17 : List Cond := [Cond.selects RX7 yX7_isWalker yX7_isWalker, Cond.code yX7_isWalker cX7_isWalker 2 (some .boolean), Cond.methodLink RX7 144 yX7_laidBy, Cond.instanceMethod yX7_laidBy, Cond.selects RX7 yX7_laidBy yX7_laidBy, Cond.code yX7_laidBy cX7_laidBy 4 (some .int), Cond.methodLink RL 38 yX6_passes, Cond.instanceMethod yX6_passes, Cond.selects RX6 yX6_passes yX6_passes, Cond.code yX6_passes cX6_passes 3 (some .int), Cond.methodLink RX6 135 yX6_stepsOf, Cond.instanceMethod yX6_stepsOf, Cond.selects RX6 yX6_stepsOf yX6_stepsOf, Cond.code yX6_stepsOf cX6_stepsOf 2 (some .int), Cond.methodLink RX6 169 yX6_bearing, Cond.instanceMethod yX6_bearing, Cond.selects RX6 yX6_bearing yX6_bearing, Cond.code yX6_bearing cX6_bearing 1 (some .int), Cond.methodLink RX6 172 yX5_fewestSteps, Cond.instanceMethod yX5_fewestSteps, Cond.selects RX5 yX5_fewestSteps yX5_fewestSteps, Cond.code yX5_fewestSteps cX5_fewestSteps 7 (some .int), Cond.methodLink RX5 24 yX5_near, Cond.instanceMethod yX5_near]
def wsL_law_r18 : List Cond := [Cond.selects RX5 yX5_near yX5_near, Cond.code yX5_near cX5_near 8 (some .int), Cond.methodLink RX6 141 yX6_has, Cond.methodLink RX6 145 yX6_goAndLay, Cond.instanceMethod yX6_goAndLay, Cond.selects RX6 yX6_goAndLay yX6_goAndLay, Cond.code yX6_goAndLay cX6_goAndLay 8 (some .int), Cond.methodLink RX6 176 yX5_nextCell, Cond.instanceMethod yX5_nextCell, Cond.selects RX5 yX5_nextCell yX5_nextCell, Cond.code yX5_nextCell cX5_nextCell 7 (some .int), Cond.methodLink RX5 36 yX5_fewestSteps, Cond.methodLink RX6 230 yX0_stepOn, Cond.instanceMethod yX0_stepOn, Cond.selects RX0 yX0_stepOn yX0_stepOn, Cond.code yX0_stepOn cX0_stepOn 3 none, Cond.methodLink RX6 233 yX0_lay, Cond.instanceMethod yX0_lay, Cond.selects RX0 yX0_lay yX0_lay, Cond.code yX0_lay cX0_lay 4 none, Cond.methodLink RL 41 yX7_passes, Cond.instanceMethod yX7_passes, Cond.selects RX7 yX7_passes yX7_passes, Cond.code yX7_passes cX7_passes 4 (some .int)]
def wsL_law_r19 : List Cond := [Cond.methodLink RX7 159 yX7_stepsOf, Cond.instanceMethod yX7_stepsOf, Cond.selects RX7 yX7_stepsOf yX7_stepsOf, Cond.code yX7_stepsOf cX7_stepsOf 3 (some .int), Cond.methodLink RX7 155 yX7_measures, Cond.instanceMethod yX7_measures, Cond.selects RX7 yX7_measures yX7_measures, Cond.code yX7_measures cX7_measures 7 none, Cond.methodLink RX7 151 yX7_isStep, Cond.instanceMethod yX7_isStep, Cond.selects RX7 yX7_isStep yX7_isStep, Cond.code yX7_isStep cX7_isStep 5 (some .boolean), Cond.methodLink RX7 147 yX7_apartBy, Cond.static yX7_apartBy, Cond.code yX7_apartBy cX7_apartBy 2 (some .int), Cond.methodLink RX7 165 yX7_passesAndLays, Cond.instanceMethod yX7_passesAndLays, Cond.selects RX7 yX7_passesAndLays yX7_passesAndLays, Cond.code yX7_passesAndLays cX7_passesAndLays 6 none, Cond.methodLink RX7 162 yX7_onward, Cond.instanceMethod yX7_onward, Cond.selects RX7 yX7_onward yX7_onward, Cond.code yX7_onward cX7_onward 4 (some .int), Cond.methodLink RL 42 yX6_days]
def wsL_law_r20 : List Cond := [Cond.instanceMethod yX6_days, Cond.selects RX6 yX6_days yX6_days, Cond.code yX6_days cX6_days 5 (some .int), Cond.methodLink RX6 152 yX6_likedBy, Cond.instanceMethod yX6_likedBy, Cond.selects RX6 yX6_likedBy yX6_likedBy, Cond.code yX6_likedBy cX6_likedBy 2 (some .int), Cond.methodLink RX6 227 yX1_bestToLay, Cond.instanceMethod yX1_bestToLay, Cond.selects RX1 yX1_bestToLay yX1_bestToLay, Cond.code yX1_bestToLay cX1_bestToLay 10 (some .int), Cond.methodLink RX1 26 yX5_fewestSteps, Cond.methodLink RL 46 yX7_days, Cond.instanceMethod yX7_days, Cond.selects RX7 yX7_days yX7_days, Cond.code yX7_days cX7_days 6 (some .int), Cond.methodLink RX7 169 yX7_likesOf, Cond.instanceMethod yX7_likesOf, Cond.selects RX7 yX7_likesOf yX7_likesOf, Cond.code yX7_likesOf cX7_likesOf 6 (some .int), Cond.methodLink RL 47 yX6_now, Cond.instanceMethod yX6_now, Cond.selects RX6 yX6_now yX6_now, Cond.code yX6_now cX6_now 2 (some .int)]
def wsL_law_r21 : List Cond := [Cond.methodLink RX6 161 yJ6_bitCount_0f7a4, Cond.static yJ6_bitCount_0f7a4, Cond.initialized RJ6, Cond.code yJ6_bitCount_0f7a4 cJ6_bitCount_0f7a4 1 (some .int), Cond.constant RJ6 265 (1431655765), Cond.constant RJ6 266 (858993459), Cond.constant RJ6 267 (252645135), Cond.methodLink RX6 166 yX0_passedByAll, Cond.instanceMethod yX0_passedByAll, Cond.selects RX0 yX0_passedByAll yX0_passedByAll, Cond.code yX0_passedByAll cX0_passedByAll 3 (some .int), Cond.methodLink RL 50 yX7_now, Cond.instanceMethod yX7_now, Cond.selects RX7 yX7_now yX7_now, Cond.code yX7_now cX7_now 2 (some .int), Cond.methodLink RX7 172 yX7_many, Cond.instanceMethod yX7_many, Cond.selects RX7 yX7_many yX7_many, Cond.code yX7_many cX7_many 4 (some .int), Cond.methodLink RX7 175 yX7_passedInAll, Cond.instanceMethod yX7_passedInAll, Cond.selects RX7 yX7_passedInAll yX7_passedInAll, Cond.code yX7_passedInAll cX7_passedInAll 1 (some .int), Cond.methodLink RL 51 yX6_anew]
def wsL_law_r22 : List Cond := [Cond.instanceMethod yX6_anew, Cond.selects RX6 yX6_anew yX6_anew, Cond.code yX6_anew cX6_anew 2 (some .int), Cond.methodLink RL 54 yX7_anew, Cond.instanceMethod yX7_anew, Cond.selects RX7 yX7_anew yX7_anew, Cond.code yX7_anew cX7_anew 2 (some .int), Cond.methodLink RL 55 yX6_steps, Cond.instanceMethod yX6_steps, Cond.selects RX6 yX6_steps yX6_steps, Cond.code yX6_steps cX6_steps 3 (some .int), Cond.methodLink RL 58 yX7_steps, Cond.instanceMethod yX7_steps, Cond.selects RX7 yX7_steps yX7_steps, Cond.code yX7_steps cX7_steps 3 (some .int), Cond.methodLink RL 59 yX6_way, Cond.instanceMethod yX6_way, Cond.selects RX6 yX6_way yX6_way, Cond.code yX6_way cX6_way 7 (some .int), Cond.methodLink RL 63 yX7_way, Cond.instanceMethod yX7_way, Cond.selects RX7 yX7_way yX7_way, Cond.code yX7_way cX7_way 7 (some .int), Cond.methodLink RL 64 yX6_stones]
def wsL_law_r23 : List Cond := [Cond.instanceMethod yX6_stones, Cond.selects RX6 yX6_stones yX6_stones, Cond.code yX6_stones cX6_stones 3 (some .int), Cond.methodLink RX6 179 yX5_fewestStones, Cond.instanceMethod yX5_fewestStones, Cond.selects RX5 yX5_fewestStones yX5_fewestStones, Cond.code yX5_fewestStones cX5_fewestStones 6 (some .int), Cond.methodLink RX5 32 yX5_spread, Cond.instanceMethod yX5_spread, Cond.selects RX5 yX5_spread yX5_spread, Cond.code yX5_spread cX5_spread 6 (some .int), Cond.methodLink RL 67 yX7_stones, Cond.instanceMethod yX7_stones, Cond.selects RX7 yX7_stones yX7_stones, Cond.code yX7_stones cX7_stones 3 (some .int), Cond.methodLink RX7 178 yX7_costs, Cond.instanceMethod yX7_costs, Cond.selects RX7 yX7_costs yX7_costs, Cond.code yX7_costs cX7_costs 9 (some .int), Cond.methodLink RL 68 yX6_joined, Cond.instanceMethod yX6_joined, Cond.selects RX6 yX6_joined yX6_joined, Cond.code yX6_joined cX6_joined 4 (some .int), Cond.methodLink RX6 182 yX1_leastJoining]
def wsL_law_r24 : List Cond := [Cond.instanceMethod yX1_leastJoining, Cond.selects RX1 yX1_leastJoining yX1_leastJoining, Cond.code yX1_leastJoining cX1_leastJoining 8 (some .int), Cond.methodLink RX1 30 yJ6_bitCount_0f7a4, Cond.methodLink RX1 36 yX1_joinsAll, Cond.instanceMethod yX1_joinsAll, Cond.selects RX1 yX1_joinsAll yX1_joinsAll, Cond.code yX1_joinsAll cX1_joinsAll 4 (some .boolean), Cond.methodLink RX1 39 yX5_spread, Cond.methodLink RL 71 yX7_joined, Cond.instanceMethod yX7_joined, Cond.selects RX7 yX7_joined yX7_joined, Cond.code yX7_joined cX7_joined 6 (some .int), Cond.methodLink RX7 193 yX7_listsBogs, Cond.instanceMethod yX7_listsBogs, Cond.selects RX7 yX7_listsBogs yX7_listsBogs, Cond.code yX7_listsBogs cX7_listsBogs 3 (some .int), Cond.methodLink RX7 196 yX7_nears, Cond.instanceMethod yX7_nears, Cond.selects RX7 yX7_nears yX7_nears, Cond.code yX7_nears cX7_nears 3 none, Cond.methodLink RX7 199 yX7_joins, Cond.instanceMethod yX7_joins, Cond.selects RX7 yX7_joins yX7_joins]
def wsL_law_r25 : List Cond := [Cond.code yX7_joins cX7_joins 9 (some .int), Cond.methodLink RX7 181 yX7_chosen, Cond.instanceMethod yX7_chosen, Cond.selects RX7 yX7_chosen yX7_chosen, Cond.code yX7_chosen cX7_chosen 5 (some .int), Cond.methodLink RX7 184 yX7_bearing, Cond.instanceMethod yX7_bearing, Cond.selects RX7 yX7_bearing yX7_bearing, Cond.code yX7_bearing cX7_bearing 3 (some .int), Cond.methodLink RX7 187 yX7_ones, Cond.static yX7_ones, Cond.code yX7_ones cX7_ones 3 (some .int), Cond.methodLink RX7 190 yX7_reached, Cond.instanceMethod yX7_reached, Cond.selects RX7 yX7_reached yX7_reached, Cond.code yX7_reached cX7_reached 7 (some .int), Cond.methodLink RL 72 yX6_likes, Cond.instanceMethod yX6_likes, Cond.selects RX6 yX6_likes yX6_likes, Cond.code yX6_likes cX6_likes 2 (some .int), Cond.methodLink RL 75 yX7_likes, Cond.instanceMethod yX7_likes, Cond.selects RX7 yX7_likes yX7_likes, Cond.code yX7_likes cX7_likes 2 (some .int)]
def wsL_law_r26 : List Cond := [Cond.methodLink RL 76 yX6_byTurns, Cond.instanceMethod yX6_byTurns, Cond.selects RX6 yX6_byTurns yX6_byTurns, Cond.code yX6_byTurns cX6_byTurns 3 (some .int), Cond.methodLink RX6 185 yX1_laidByTurns, Cond.instanceMethod yX1_laidByTurns, Cond.selects RX1 yX1_laidByTurns yX1_laidByTurns, Cond.code yX1_laidByTurns cX1_laidByTurns 9 (some .int), Cond.methodLink RX1 43 yX5_joins, Cond.instanceMethod yX5_joins, Cond.selects RX5 yX5_joins yX5_joins, Cond.code yX5_joins cX5_joins 4 (some .boolean), Cond.methodLink RX1 47 yX1_bestOfNext, Cond.instanceMethod yX1_bestOfNext, Cond.selects RX1 yX1_bestOfNext yX1_bestOfNext, Cond.code yX1_bestOfNext cX1_bestOfNext 7 (some .int), Cond.methodLink RX1 58 Lib.Math.min.name, Cond.methodLink RX1 63 Lib.Math.max.name, Cond.static Lib.Math.max.name, Cond.code Lib.Math.max.name Lib.Math.max.code 2 (some .int), Cond.methodLink RL 79 yX7_byTurns, Cond.instanceMethod yX7_byTurns, Cond.selects RX7 yX7_byTurns yX7_byTurns, Cond.code yX7_byTurns cX7_byTurns 11 (some .int)]
def wsL_law_r27 : List Cond := [Cond.methodLink RL 80 yX6_apart, Cond.instanceMethod yX6_apart, Cond.selects RX6 yX6_apart yX6_apart, Cond.code yX6_apart cX6_apart 4 (some .int), Cond.methodLink RX6 189 yX5_near, Cond.methodLink RX6 192 yX1_fewestApart, Cond.instanceMethod yX1_fewestApart, Cond.selects RX1 yX1_fewestApart yX1_fewestApart, Cond.code yX1_fewestApart cX1_fewestApart 9 (some .int), Cond.methodLink RX1 66 yX5_near, Cond.methodLink RL 83 yX7_apart, Cond.instanceMethod yX7_apart, Cond.selects RX7 yX7_apart yX7_apart, Cond.code yX7_apart cX7_apart 10 (some .int), Cond.methodLink RL 84 yX6_rate, Cond.instanceMethod yX6_rate, Cond.selects RX6 yX6_rate yX6_rate, Cond.code yX6_rate cX6_rate 3 (some .int), Cond.constant RX6 195 (-1000000), Cond.methodLink RX6 196 yX6_rateWalker, Cond.instanceMethod yX6_rateWalker, Cond.selects RX6 yX6_rateWalker yX6_rateWalker, Cond.code yX6_rateWalker cX6_rateWalker 2 (some .int), Cond.methodLink RX6 237 Lib.Math.max.name]
def wsL_law_r28 : List Cond := [Cond.methodLink RX6 199 yX6_ratePilgrim, Cond.instanceMethod yX6_ratePilgrim, Cond.selects RX6 yX6_ratePilgrim yX6_ratePilgrim, Cond.code yX6_ratePilgrim cX6_ratePilgrim 2 (some .int), Cond.constantLong RX6 242 (10), Cond.methodLink RX6 202 yX6_rateShepherd, Cond.instanceMethod yX6_rateShepherd, Cond.selects RX6 yX6_rateShepherd yX6_rateShepherd, Cond.code yX6_rateShepherd cX6_rateShepherd 2 (some .int), Cond.constantLong RX6 244 (100), Cond.methodLink RX6 205 yX6_rateMonk, Cond.instanceMethod yX6_rateMonk, Cond.selects RX6 yX6_rateMonk yX6_rateMonk, Cond.code yX6_rateMonk cX6_rateMonk 2 (some .int), Cond.constantLong RX6 246 (1000), Cond.methodLink RX6 208 yX6_rateThief, Cond.instanceMethod yX6_rateThief, Cond.selects RX6 yX6_rateThief yX6_rateThief, Cond.code yX6_rateThief cX6_rateThief 2 (some .int), Cond.constantLong RX6 248 (10000), Cond.methodLink RX6 211 yX6_rateChild, Cond.instanceMethod yX6_rateChild, Cond.selects RX6 yX6_rateChild yX6_rateChild, Cond.code yX6_rateChild cX6_rateChild 2 (some .int)]
def wsL_law_r29 : List Cond := [Cond.constantLong RX6 250 (100000), Cond.methodLink RL 87 yX7_rate, Cond.instanceMethod yX7_rate, Cond.selects RX7 yX7_rate yX7_rate, Cond.code yX7_rate cX7_rate 7 (some .int), Cond.constant RX7 202 (-1000000), Cond.fieldLink RX7 203 "MoorStonesModel" "trace" "J", Cond.constantLong RX7 207 (11), Cond.constantLong RX7 209 (101), Cond.constantLong RX7 211 (1011), Cond.constantLong RX7 213 (10101), Cond.constantLong RX7 215 (100001), Cond.methodLink RL 88 yX6_keep, Cond.instanceMethod yX6_keep, Cond.selects RX6 yX6_keep yX6_keep, Cond.code yX6_keep cX6_keep 3 (some .int), Cond.methodLink RX6 214 yX6_imageOf, Cond.instanceMethod yX6_imageOf, Cond.selects RX6 yX6_imageOf yX6_imageOf, Cond.code yX6_imageOf cX6_imageOf 2 (some (.object "MoorStones$Now")), Cond.methodLink RX6 218 yX0_copy, Cond.instanceMethod yX0_copy, Cond.selects RX0 yX0_copy yX0_copy, Cond.code yX0_copy cX0_copy 2 none]
def wsL_law_r30 : List Cond := [Cond.methodLink RL 91 yX7_keep, Cond.instanceMethod yX7_keep, Cond.selects RX7 yX7_keep yX7_keep, Cond.code yX7_keep cX7_keep 3 (some .int), Cond.methodLink RL 92 yX6_back, Cond.instanceMethod yX6_back, Cond.selects RX6 yX6_back yX6_back, Cond.code yX6_back cX6_back 3 (some .int), Cond.methodLink RL 95 yX7_back, Cond.instanceMethod yX7_back, Cond.selects RX7 yX7_back yX7_back, Cond.code yX7_back cX7_back 3 (some .int), Cond.methodLink RL 96 yX6_count, Cond.instanceMethod yX6_count, Cond.selects RX6 yX6_count yX6_count, Cond.code yX6_count cX6_count 2 (some .int), Cond.methodLink RL 99 yX7_count, Cond.instanceMethod yX7_count, Cond.selects RX7 yX7_count yX7_count, Cond.code yX7_count cX7_count 2 (some .int), Cond.methodLink RL 100 yX6_trace, Cond.instanceMethod yX6_trace, Cond.selects RX6 yX6_trace yX6_trace, Cond.code yX6_trace cX6_trace 1 (some .long)]
def wsL_law_r31 : List Cond := [Cond.methodLink RL 104 yX7_trace, Cond.instanceMethod yX7_trace, Cond.selects RX7 yX7_trace yX7_trace, Cond.code yX7_trace cX7_trace 1 (some .long)]
def wsL_law : List Cond := (wsL_law_r1 ++ (wsL_law_r2 ++ (wsL_law_r3 ++ (wsL_law_r4 ++ (wsL_law_r5 ++ (wsL_law_r6 ++ (wsL_law_r7 ++ (wsL_law_r8 ++ (wsL_law_r9 ++ (wsL_law_r10 ++ (wsL_law_r11 ++ (wsL_law_r12 ++ (wsL_law_r13 ++ (wsL_law_r14 ++ (wsL_law_r15 ++ (wsL_law_r16 ++ (wsL_law_r17 ++ (wsL_law_r18 ++ (wsL_law_r19 ++ (wsL_law_r20 ++ (wsL_law_r21 ++ (wsL_law_r22 ++ (wsL_law_r23 ++ (wsL_law_r24 ++ (wsL_law_r25 ++ (wsL_law_r26 ++ (wsL_law_r27 ++ (wsL_law_r28 ++ (wsL_law_r29 ++ (wsL_law_r30 ++ wsL_law_r31)))))))))))))))))))))))))))))) ++ wsX60 ++ wsX70 ++ wsX20 ++ wsX40 ++ wsX10 ++ wsX00 ++ wsX30 ++ wsX50 ++ ([] : List Cond)
theorem inlX0 : ∀ w ∈ wsX00, w ∈ wsL_law := fun _ h => List.mem_append_left _ (List.mem_append_left _ (List.mem_append_left _ (List.mem_append_right _ h)))
theorem inlX1 : ∀ w ∈ wsX10, w ∈ wsL_law := fun _ h => List.mem_append_left _ (List.mem_append_left _ (List.mem_append_left _ (List.mem_append_left _ (List.mem_append_right _ h))))
theorem inlX2 : ∀ w ∈ wsX20, w ∈ wsL_law := fun _ h => List.mem_append_left _ (List.mem_append_left _ (List.mem_append_left _ (List.mem_append_left _ (List.mem_append_left _ (List.mem_append_left _ (List.mem_append_right _ h))))))
theorem inlX3 : ∀ w ∈ wsX30, w ∈ wsL_law := fun _ h => List.mem_append_left _ (List.mem_append_left _ (List.mem_append_right _ h))
theorem inlX4 : ∀ w ∈ wsX40, w ∈ wsL_law := fun _ h => List.mem_append_left _ (List.mem_append_left _ (List.mem_append_left _ (List.mem_append_left _ (List.mem_append_left _ (List.mem_append_right _ h)))))
theorem inlX5 : ∀ w ∈ wsX50, w ∈ wsL_law := fun _ h => List.mem_append_left _ (List.mem_append_right _ h)
theorem inlX6 : ∀ w ∈ wsX60, w ∈ wsL_law := fun _ h => List.mem_append_left _ (List.mem_append_left _ (List.mem_append_left _ (List.mem_append_left _ (List.mem_append_left _ (List.mem_append_left _ (List.mem_append_left _ (List.mem_append_left _ (List.mem_append_right _ h))))))))
theorem inlX7 : ∀ w ∈ wsX70, w ∈ wsL_law := fun _ h => List.mem_append_left _ (List.mem_append_left _ (List.mem_append_left _ (List.mem_append_left _ (List.mem_append_left _ (List.mem_append_left _ (List.mem_append_left _ (List.mem_append_right _ h)))))))
abbrev vwCl : List vw_C := [(RX0, TX0, 6), (RX1, TX1, 2), (RX2, TX2, 5), (RX3, TX3, 2), (RX4, TX4, 10), (RX5, TX5, 4), (RX6, TX6, 10), (RX7, TX7, 27)]
end
section
theorem dX0_init_0 : decode cX0_init 0 = .ok (.aload_n 0, 1) := by decide +kernel
theorem dX0_init_1 : decode cX0_init 1 = .ok (.invokespecial 3, 3) := by decide +kernel
theorem dX0_init_4 : decode cX0_init 4 = .ok (.aload_n 0, 1) := by decide +kernel
theorem dX0_init_5 : decode cX0_init 5 = .ok (.bipush 24, 2) := by decide +kernel
theorem dX0_init_7 : decode cX0_init 7 = .ok (.newarray .int, 2) := by decide +kernel
theorem dX0_init_9 : decode cX0_init 9 = .ok (.putfield 9, 3) := by decide +kernel
theorem dX0_init_12 : decode cX0_init 12 = .ok (.aload_n 0, 1) := by decide +kernel
theorem dX0_init_13 : decode cX0_init 13 = .ok (.bipush 24, 2) := by decide +kernel
theorem dX0_init_15 : decode cX0_init 15 = .ok (.newarray .int, 2) := by decide +kernel
theorem dX0_init_17 : decode cX0_init 17 = .ok (.putfield 15, 3) := by decide +kernel
theorem dX0_init_20 : decode cX0_init 20 = .ok (.aload_n 0, 1) := by decide +kernel
theorem dX0_init_21 : decode cX0_init 21 = .ok (.iconst 4, 1) := by decide +kernel
theorem dX0_init_22 : decode cX0_init 22 = .ok (.newarray .int, 2) := by decide +kernel
theorem dX0_init_24 : decode cX0_init 24 = .ok (.putfield 18, 3) := by decide +kernel
theorem dX0_init_27 : decode cX0_init 27 = .ok (.return_, 1) := by decide +kernel
theorem dX0_beginAsTold_0 : decode cX0_beginAsTold 0 = .ok (.aload_n 0, 1) := by decide +kernel
theorem dX0_beginAsTold_1 : decode cX0_beginAsTold 1 = .ok (.aload_n 1, 1) := by decide +kernel
theorem dX0_beginAsTold_2 : decode cX0_beginAsTold 2 = .ok (.getfield 21, 3) := by decide +kernel
theorem dX0_beginAsTold_5 : decode cX0_beginAsTold 5 = .ok (.putfield 27, 3) := by decide +kernel
theorem dX0_beginAsTold_8 : decode cX0_beginAsTold 8 = .ok (.aload_n 0, 1) := by decide +kernel
theorem dX0_beginAsTold_9 : decode cX0_beginAsTold 9 = .ok (.aload_n 1, 1) := by decide +kernel
theorem dX0_beginAsTold_10 : decode cX0_beginAsTold 10 = .ok (.getfield 28, 3) := by decide +kernel
theorem dX0_beginAsTold_13 : decode cX0_beginAsTold 13 = .ok (.putfield 31, 3) := by decide +kernel
theorem dX0_beginAsTold_16 : decode cX0_beginAsTold 16 = .ok (.iconst 0, 1) := by decide +kernel
theorem dX0_beginAsTold_17 : decode cX0_beginAsTold 17 = .ok (.istore_n 2, 1) := by decide +kernel
theorem dX0_beginAsTold_18 : decode cX0_beginAsTold 18 = .ok (.iload_n 2, 1) := by decide +kernel
theorem dX0_beginAsTold_19 : decode cX0_beginAsTold 19 = .ok (.bipush 24, 2) := by decide +kernel
theorem dX0_beginAsTold_21 : decode cX0_beginAsTold 21 = .ok (.if_icmp .ge 46, 3) := by decide +kernel
theorem dX0_beginAsTold_24 : decode cX0_beginAsTold 24 = .ok (.aload_n 0, 1) := by decide +kernel
theorem dX0_beginAsTold_25 : decode cX0_beginAsTold 25 = .ok (.getfield 9, 3) := by decide +kernel
theorem dX0_beginAsTold_28 : decode cX0_beginAsTold 28 = .ok (.iload_n 2, 1) := by decide +kernel
theorem dX0_beginAsTold_29 : decode cX0_beginAsTold 29 = .ok (.aload_n 0, 1) := by decide +kernel
theorem dX0_beginAsTold_30 : decode cX0_beginAsTold 30 = .ok (.getfield 31, 3) := by decide +kernel
theorem dX0_beginAsTold_33 : decode cX0_beginAsTold 33 = .ok (.iload_n 2, 1) := by decide +kernel
theorem dX0_beginAsTold_34 : decode cX0_beginAsTold 34 = .ok (.invokestatic 32, 3) := by decide +kernel
theorem dX0_beginAsTold_37 : decode cX0_beginAsTold 37 = .ok (.ifCond .eq 10, 3) := by decide +kernel
theorem dX0_beginAsTold_40 : decode cX0_beginAsTold 40 = .ok (.aload_n 1, 1) := by decide +kernel
theorem dX0_beginAsTold_41 : decode cX0_beginAsTold 41 = .ok (.getfield 36, 3) := by decide +kernel
theorem dX0_beginAsTold_44 : decode cX0_beginAsTold 44 = .ok (.goto 4, 3) := by decide +kernel
theorem dX0_beginAsTold_47 : decode cX0_beginAsTold 47 = .ok (.iconst 0, 1) := by decide +kernel
theorem dX0_beginAsTold_48 : decode cX0_beginAsTold 48 = .ok (.invokestatic 39, 3) := by decide +kernel
theorem dX0_beginAsTold_51 : decode cX0_beginAsTold 51 = .ok (.aload_n 0, 1) := by decide +kernel
theorem dX0_beginAsTold_52 : decode cX0_beginAsTold 52 = .ok (.getfield 15, 3) := by decide +kernel
theorem dX0_beginAsTold_55 : decode cX0_beginAsTold 55 = .ok (.iload_n 2, 1) := by decide +kernel
theorem dX0_beginAsTold_56 : decode cX0_beginAsTold 56 = .ok (.bipush (-9), 2) := by decide +kernel
theorem dX0_beginAsTold_58 : decode cX0_beginAsTold 58 = .ok (.invokestatic 39, 3) := by decide +kernel
theorem dX0_beginAsTold_61 : decode cX0_beginAsTold 61 = .ok (.iinc 2 1, 3) := by decide +kernel
theorem dX0_beginAsTold_64 : decode cX0_beginAsTold 64 = .ok (.goto (-46), 3) := by decide +kernel
theorem dX0_beginAsTold_67 : decode cX0_beginAsTold 67 = .ok (.iconst 0, 1) := by decide +kernel
theorem dX0_beginAsTold_68 : decode cX0_beginAsTold 68 = .ok (.istore_n 2, 1) := by decide +kernel
theorem dX0_beginAsTold_69 : decode cX0_beginAsTold 69 = .ok (.iload_n 2, 1) := by decide +kernel
theorem dX0_beginAsTold_70 : decode cX0_beginAsTold 70 = .ok (.iconst 4, 1) := by decide +kernel
theorem dX0_beginAsTold_71 : decode cX0_beginAsTold 71 = .ok (.if_icmp .ge 18, 3) := by decide +kernel
theorem dX0_beginAsTold_74 : decode cX0_beginAsTold 74 = .ok (.aload_n 0, 1) := by decide +kernel
theorem dX0_beginAsTold_75 : decode cX0_beginAsTold 75 = .ok (.getfield 18, 3) := by decide +kernel
theorem dX0_beginAsTold_78 : decode cX0_beginAsTold 78 = .ok (.iload_n 2, 1) := by decide +kernel
theorem dX0_beginAsTold_79 : decode cX0_beginAsTold 79 = .ok (.iconst 0, 1) := by decide +kernel
theorem dX0_beginAsTold_80 : decode cX0_beginAsTold 80 = .ok (.invokestatic 39, 3) := by decide +kernel
theorem dX0_beginAsTold_83 : decode cX0_beginAsTold 83 = .ok (.iinc 2 1, 3) := by decide +kernel
theorem dX0_beginAsTold_86 : decode cX0_beginAsTold 86 = .ok (.goto (-17), 3) := by decide +kernel
theorem dX0_beginAsTold_89 : decode cX0_beginAsTold 89 = .ok (.return_, 1) := by decide +kernel
theorem dX0_copy_0 : decode cX0_copy 0 = .ok (.aload_n 0, 1) := by decide +kernel
theorem dX0_copy_1 : decode cX0_copy 1 = .ok (.aload_n 1, 1) := by decide +kernel
theorem dX0_copy_2 : decode cX0_copy 2 = .ok (.getfield 27, 3) := by decide +kernel
theorem dX0_copy_5 : decode cX0_copy 5 = .ok (.putfield 27, 3) := by decide +kernel
theorem dX0_copy_8 : decode cX0_copy 8 = .ok (.aload_n 0, 1) := by decide +kernel
theorem dX0_copy_9 : decode cX0_copy 9 = .ok (.aload_n 1, 1) := by decide +kernel
theorem dX0_copy_10 : decode cX0_copy 10 = .ok (.getfield 31, 3) := by decide +kernel
theorem dX0_copy_13 : decode cX0_copy 13 = .ok (.putfield 31, 3) := by decide +kernel
theorem dX0_copy_16 : decode cX0_copy 16 = .ok (.aload_n 1, 1) := by decide +kernel
theorem dX0_copy_17 : decode cX0_copy 17 = .ok (.getfield 9, 3) := by decide +kernel
theorem dX0_copy_20 : decode cX0_copy 20 = .ok (.aload_n 0, 1) := by decide +kernel
theorem dX0_copy_21 : decode cX0_copy 21 = .ok (.getfield 9, 3) := by decide +kernel
theorem dX0_copy_24 : decode cX0_copy 24 = .ok (.invokestatic 43, 3) := by decide +kernel
theorem dX0_copy_27 : decode cX0_copy 27 = .ok (.aload_n 1, 1) := by decide +kernel
theorem dX0_copy_28 : decode cX0_copy 28 = .ok (.getfield 15, 3) := by decide +kernel
theorem dX0_copy_31 : decode cX0_copy 31 = .ok (.aload_n 0, 1) := by decide +kernel
theorem dX0_copy_32 : decode cX0_copy 32 = .ok (.getfield 15, 3) := by decide +kernel
theorem dX0_copy_35 : decode cX0_copy 35 = .ok (.invokestatic 43, 3) := by decide +kernel
theorem dX0_copy_38 : decode cX0_copy 38 = .ok (.aload_n 1, 1) := by decide +kernel
theorem dX0_copy_39 : decode cX0_copy 39 = .ok (.getfield 18, 3) := by decide +kernel
theorem dX0_copy_42 : decode cX0_copy 42 = .ok (.aload_n 0, 1) := by decide +kernel
theorem dX0_copy_43 : decode cX0_copy 43 = .ok (.getfield 18, 3) := by decide +kernel
theorem dX0_copy_46 : decode cX0_copy 46 = .ok (.invokestatic 43, 3) := by decide +kernel
theorem dX0_copy_49 : decode cX0_copy 49 = .ok (.return_, 1) := by decide +kernel
theorem dX0_groundOf_0 : decode cX0_groundOf 0 = .ok (.aload_n 0, 1) := by decide +kernel
theorem dX0_groundOf_1 : decode cX0_groundOf 1 = .ok (.getfield 31, 3) := by decide +kernel
theorem dX0_groundOf_4 : decode cX0_groundOf 4 = .ok (.iload_n 1, 1) := by decide +kernel
theorem dX0_groundOf_5 : decode cX0_groundOf 5 = .ok (.invokestatic 32, 3) := by decide +kernel
theorem dX0_groundOf_8 : decode cX0_groundOf 8 = .ok (.ifCond .eq 5, 3) := by decide +kernel
theorem dX0_groundOf_11 : decode cX0_groundOf 11 = .ok (.iconst 2, 1) := by decide +kernel
theorem dX0_groundOf_12 : decode cX0_groundOf 12 = .ok (.ireturn, 1) := by decide +kernel
theorem dX0_groundOf_13 : decode cX0_groundOf 13 = .ok (.aload_n 0, 1) := by decide +kernel
theorem dX0_groundOf_14 : decode cX0_groundOf 14 = .ok (.getfield 27, 3) := by decide +kernel
theorem dX0_groundOf_17 : decode cX0_groundOf 17 = .ok (.iload_n 1, 1) := by decide +kernel
theorem dX0_groundOf_18 : decode cX0_groundOf 18 = .ok (.invokestatic 32, 3) := by decide +kernel
theorem dX0_groundOf_21 : decode cX0_groundOf 21 = .ok (.ifCond .eq 7, 3) := by decide +kernel
theorem dX0_groundOf_24 : decode cX0_groundOf 24 = .ok (.iconst 1, 1) := by decide +kernel
theorem dX0_groundOf_25 : decode cX0_groundOf 25 = .ok (.goto 4, 3) := by decide +kernel
theorem dX0_groundOf_28 : decode cX0_groundOf 28 = .ok (.iconst 0, 1) := by decide +kernel
theorem dX0_groundOf_29 : decode cX0_groundOf 29 = .ok (.ireturn, 1) := by decide +kernel
theorem dX0_laidBy_0 : decode cX0_laidBy 0 = .ok (.iconst 0, 1) := by decide +kernel
theorem dX0_laidBy_1 : decode cX0_laidBy 1 = .ok (.istore_n 2, 1) := by decide +kernel
theorem dX0_laidBy_2 : decode cX0_laidBy 2 = .ok (.iconst 0, 1) := by decide +kernel
theorem dX0_laidBy_3 : decode cX0_laidBy 3 = .ok (.istore_n 3, 1) := by decide +kernel
theorem dX0_laidBy_4 : decode cX0_laidBy 4 = .ok (.iload_n 3, 1) := by decide +kernel
theorem dX0_laidBy_5 : decode cX0_laidBy 5 = .ok (.bipush 24, 2) := by decide +kernel
theorem dX0_laidBy_7 : decode cX0_laidBy 7 = .ok (.if_icmp .ge 35, 3) := by decide +kernel
theorem dX0_laidBy_10 : decode cX0_laidBy 10 = .ok (.aload_n 0, 1) := by decide +kernel
theorem dX0_laidBy_11 : decode cX0_laidBy 11 = .ok (.getfield 31, 3) := by decide +kernel
theorem dX0_laidBy_14 : decode cX0_laidBy 14 = .ok (.iload_n 3, 1) := by decide +kernel
theorem dX0_laidBy_15 : decode cX0_laidBy 15 = .ok (.invokestatic 32, 3) := by decide +kernel
theorem dX0_laidBy_18 : decode cX0_laidBy 18 = .ok (.ifCond .eq 18, 3) := by decide +kernel
theorem dX0_laidBy_21 : decode cX0_laidBy 21 = .ok (.aload_n 0, 1) := by decide +kernel
theorem dX0_laidBy_22 : decode cX0_laidBy 22 = .ok (.getfield 15, 3) := by decide +kernel
theorem dX0_laidBy_25 : decode cX0_laidBy 25 = .ok (.iload_n 3, 1) := by decide +kernel
theorem dX0_laidBy_26 : decode cX0_laidBy 26 = .ok (.invokestatic 47, 3) := by decide +kernel
theorem dX0_laidBy_29 : decode cX0_laidBy 29 = .ok (.iload_n 1, 1) := by decide +kernel
theorem dX0_laidBy_30 : decode cX0_laidBy 30 = .ok (.if_icmp .ne 6, 3) := by decide +kernel
theorem dX0_laidBy_33 : decode cX0_laidBy 33 = .ok (.iinc 2 1, 3) := by decide +kernel
theorem dX0_laidBy_36 : decode cX0_laidBy 36 = .ok (.iinc 3 1, 3) := by decide +kernel
theorem dX0_laidBy_39 : decode cX0_laidBy 39 = .ok (.goto (-35), 3) := by decide +kernel
theorem dX0_laidBy_42 : decode cX0_laidBy 42 = .ok (.iload_n 2, 1) := by decide +kernel
theorem dX0_laidBy_43 : decode cX0_laidBy 43 = .ok (.ireturn, 1) := by decide +kernel
theorem dX0_passedByAll_0 : decode cX0_passedByAll 0 = .ok (.iconst 0, 1) := by decide +kernel
theorem dX0_passedByAll_1 : decode cX0_passedByAll 1 = .ok (.istore_n 1, 1) := by decide +kernel
theorem dX0_passedByAll_2 : decode cX0_passedByAll 2 = .ok (.iconst 0, 1) := by decide +kernel
theorem dX0_passedByAll_3 : decode cX0_passedByAll 3 = .ok (.istore_n 2, 1) := by decide +kernel
theorem dX0_passedByAll_4 : decode cX0_passedByAll 4 = .ok (.iload_n 2, 1) := by decide +kernel
theorem dX0_passedByAll_5 : decode cX0_passedByAll 5 = .ok (.iconst 4, 1) := by decide +kernel
theorem dX0_passedByAll_6 : decode cX0_passedByAll 6 = .ok (.if_icmp .ge 20, 3) := by decide +kernel
theorem dX0_passedByAll_9 : decode cX0_passedByAll 9 = .ok (.iload_n 1, 1) := by decide +kernel
theorem dX0_passedByAll_10 : decode cX0_passedByAll 10 = .ok (.aload_n 0, 1) := by decide +kernel
theorem dX0_passedByAll_11 : decode cX0_passedByAll 11 = .ok (.getfield 18, 3) := by decide +kernel
theorem dX0_passedByAll_14 : decode cX0_passedByAll 14 = .ok (.iload_n 2, 1) := by decide +kernel
theorem dX0_passedByAll_15 : decode cX0_passedByAll 15 = .ok (.invokestatic 47, 3) := by decide +kernel
theorem dX0_passedByAll_18 : decode cX0_passedByAll 18 = .ok (.iadd, 1) := by decide +kernel
theorem dX0_passedByAll_19 : decode cX0_passedByAll 19 = .ok (.istore_n 1, 1) := by decide +kernel
theorem dX0_passedByAll_20 : decode cX0_passedByAll 20 = .ok (.iinc 2 1, 3) := by decide +kernel
theorem dX0_passedByAll_23 : decode cX0_passedByAll 23 = .ok (.goto (-19), 3) := by decide +kernel
theorem dX0_passedByAll_26 : decode cX0_passedByAll 26 = .ok (.iload_n 1, 1) := by decide +kernel
theorem dX0_passedByAll_27 : decode cX0_passedByAll 27 = .ok (.ireturn, 1) := by decide +kernel
theorem dX0_stepOn_0 : decode cX0_stepOn 0 = .ok (.aload_n 0, 1) := by decide +kernel
theorem dX0_stepOn_1 : decode cX0_stepOn 1 = .ok (.getfield 9, 3) := by decide +kernel
theorem dX0_stepOn_4 : decode cX0_stepOn 4 = .ok (.iload_n 1, 1) := by decide +kernel
theorem dX0_stepOn_5 : decode cX0_stepOn 5 = .ok (.invokestatic 47, 3) := by decide +kernel
theorem dX0_stepOn_8 : decode cX0_stepOn 8 = .ok (.istore_n 2, 1) := by decide +kernel
theorem dX0_stepOn_9 : decode cX0_stepOn 9 = .ok (.aload_n 0, 1) := by decide +kernel
theorem dX0_stepOn_10 : decode cX0_stepOn 10 = .ok (.getfield 31, 3) := by decide +kernel
theorem dX0_stepOn_13 : decode cX0_stepOn 13 = .ok (.iload_n 1, 1) := by decide +kernel
theorem dX0_stepOn_14 : decode cX0_stepOn 14 = .ok (.invokestatic 32, 3) := by decide +kernel
theorem dX0_stepOn_17 : decode cX0_stepOn 17 = .ok (.ifCond .eq 7, 3) := by decide +kernel
theorem dX0_stepOn_20 : decode cX0_stepOn 20 = .ok (.iload_n 2, 1) := by decide +kernel
theorem dX0_stepOn_21 : decode cX0_stepOn 21 = .ok (.ifCond .ne 4, 3) := by decide +kernel
theorem dX0_stepOn_24 : decode cX0_stepOn 24 = .ok (.return_, 1) := by decide +kernel
theorem dX0_stepOn_25 : decode cX0_stepOn 25 = .ok (.aload_n 0, 1) := by decide +kernel
theorem dX0_stepOn_26 : decode cX0_stepOn 26 = .ok (.getfield 9, 3) := by decide +kernel
theorem dX0_stepOn_29 : decode cX0_stepOn 29 = .ok (.iload_n 1, 1) := by decide +kernel
theorem dX0_stepOn_30 : decode cX0_stepOn 30 = .ok (.iload_n 2, 1) := by decide +kernel
theorem dX0_stepOn_31 : decode cX0_stepOn 31 = .ok (.iconst 1, 1) := by decide +kernel
theorem dX0_stepOn_32 : decode cX0_stepOn 32 = .ok (.isub, 1) := by decide +kernel
theorem dX0_stepOn_33 : decode cX0_stepOn 33 = .ok (.invokestatic 39, 3) := by decide +kernel
theorem dX0_stepOn_36 : decode cX0_stepOn 36 = .ok (.iload_n 2, 1) := by decide +kernel
theorem dX0_stepOn_37 : decode cX0_stepOn 37 = .ok (.iconst 1, 1) := by decide +kernel
theorem dX0_stepOn_38 : decode cX0_stepOn 38 = .ok (.if_icmp .ne 39, 3) := by decide +kernel
theorem dX0_stepOn_41 : decode cX0_stepOn 41 = .ok (.aload_n 0, 1) := by decide +kernel
theorem dX0_stepOn_42 : decode cX0_stepOn 42 = .ok (.dup, 1) := by decide +kernel
theorem dX0_stepOn_43 : decode cX0_stepOn 43 = .ok (.getfield 31, 3) := by decide +kernel
theorem dX0_stepOn_46 : decode cX0_stepOn 46 = .ok (.iconst 1, 1) := by decide +kernel
theorem dX0_stepOn_47 : decode cX0_stepOn 47 = .ok (.iload_n 1, 1) := by decide +kernel
theorem dX0_stepOn_48 : decode cX0_stepOn 48 = .ok (.ishl, 1) := by decide +kernel
theorem dX0_stepOn_49 : decode cX0_stepOn 49 = .ok (.iconst (-1), 1) := by decide +kernel
theorem dX0_stepOn_50 : decode cX0_stepOn 50 = .ok (.ixor, 1) := by decide +kernel
theorem dX0_stepOn_51 : decode cX0_stepOn 51 = .ok (.iand, 1) := by decide +kernel
theorem dX0_stepOn_52 : decode cX0_stepOn 52 = .ok (.putfield 31, 3) := by decide +kernel
theorem dX0_stepOn_55 : decode cX0_stepOn 55 = .ok (.aload_n 0, 1) := by decide +kernel
theorem dX0_stepOn_56 : decode cX0_stepOn 56 = .ok (.dup, 1) := by decide +kernel
theorem dX0_stepOn_57 : decode cX0_stepOn 57 = .ok (.getfield 27, 3) := by decide +kernel
theorem dX0_stepOn_60 : decode cX0_stepOn 60 = .ok (.iconst 1, 1) := by decide +kernel
theorem dX0_stepOn_61 : decode cX0_stepOn 61 = .ok (.iload_n 1, 1) := by decide +kernel
theorem dX0_stepOn_62 : decode cX0_stepOn 62 = .ok (.ishl, 1) := by decide +kernel
theorem dX0_stepOn_63 : decode cX0_stepOn 63 = .ok (.ior, 1) := by decide +kernel
theorem dX0_stepOn_64 : decode cX0_stepOn 64 = .ok (.putfield 27, 3) := by decide +kernel
theorem dX0_stepOn_67 : decode cX0_stepOn 67 = .ok (.aload_n 0, 1) := by decide +kernel
theorem dX0_stepOn_68 : decode cX0_stepOn 68 = .ok (.getfield 15, 3) := by decide +kernel
theorem dX0_stepOn_71 : decode cX0_stepOn 71 = .ok (.iload_n 1, 1) := by decide +kernel
theorem dX0_stepOn_72 : decode cX0_stepOn 72 = .ok (.bipush (-9), 2) := by decide +kernel
theorem dX0_stepOn_74 : decode cX0_stepOn 74 = .ok (.invokestatic 39, 3) := by decide +kernel
theorem dX0_stepOn_77 : decode cX0_stepOn 77 = .ok (.return_, 1) := by decide +kernel
theorem dX0_lay_0 : decode cX0_lay 0 = .ok (.aload_n 0, 1) := by decide +kernel
theorem dX0_lay_1 : decode cX0_lay 1 = .ok (.dup, 1) := by decide +kernel
theorem dX0_lay_2 : decode cX0_lay 2 = .ok (.getfield 27, 3) := by decide +kernel
theorem dX0_lay_5 : decode cX0_lay 5 = .ok (.iconst 1, 1) := by decide +kernel
theorem dX0_lay_6 : decode cX0_lay 6 = .ok (.iload_n 2, 1) := by decide +kernel
theorem dX0_lay_7 : decode cX0_lay 7 = .ok (.ishl, 1) := by decide +kernel
theorem dX0_lay_8 : decode cX0_lay 8 = .ok (.iconst (-1), 1) := by decide +kernel
theorem dX0_lay_9 : decode cX0_lay 9 = .ok (.ixor, 1) := by decide +kernel
theorem dX0_lay_10 : decode cX0_lay 10 = .ok (.iand, 1) := by decide +kernel
theorem dX0_lay_11 : decode cX0_lay 11 = .ok (.putfield 27, 3) := by decide +kernel
theorem dX0_lay_14 : decode cX0_lay 14 = .ok (.aload_n 0, 1) := by decide +kernel
theorem dX0_lay_15 : decode cX0_lay 15 = .ok (.dup, 1) := by decide +kernel
theorem dX0_lay_16 : decode cX0_lay 16 = .ok (.getfield 31, 3) := by decide +kernel
theorem dX0_lay_19 : decode cX0_lay 19 = .ok (.iconst 1, 1) := by decide +kernel
theorem dX0_lay_20 : decode cX0_lay 20 = .ok (.iload_n 2, 1) := by decide +kernel
theorem dX0_lay_21 : decode cX0_lay 21 = .ok (.ishl, 1) := by decide +kernel
theorem dX0_lay_22 : decode cX0_lay 22 = .ok (.ior, 1) := by decide +kernel
theorem dX0_lay_23 : decode cX0_lay 23 = .ok (.putfield 31, 3) := by decide +kernel
theorem dX0_lay_26 : decode cX0_lay 26 = .ok (.aload_n 0, 1) := by decide +kernel
theorem dX0_lay_27 : decode cX0_lay 27 = .ok (.getfield 9, 3) := by decide +kernel
theorem dX0_lay_30 : decode cX0_lay 30 = .ok (.iload_n 2, 1) := by decide +kernel
theorem dX0_lay_31 : decode cX0_lay 31 = .ok (.iload_n 3, 1) := by decide +kernel
theorem dX0_lay_32 : decode cX0_lay 32 = .ok (.invokestatic 39, 3) := by decide +kernel
theorem dX0_lay_35 : decode cX0_lay 35 = .ok (.aload_n 0, 1) := by decide +kernel
theorem dX0_lay_36 : decode cX0_lay 36 = .ok (.getfield 15, 3) := by decide +kernel
theorem dX0_lay_39 : decode cX0_lay 39 = .ok (.iload_n 2, 1) := by decide +kernel
theorem dX0_lay_40 : decode cX0_lay 40 = .ok (.iload_n 1, 1) := by decide +kernel
theorem dX0_lay_41 : decode cX0_lay 41 = .ok (.invokestatic 39, 3) := by decide +kernel
theorem dX0_lay_44 : decode cX0_lay 44 = .ok (.aload_n 0, 1) := by decide +kernel
theorem dX0_lay_45 : decode cX0_lay 45 = .ok (.getfield 18, 3) := by decide +kernel
theorem dX0_lay_48 : decode cX0_lay 48 = .ok (.iload_n 1, 1) := by decide +kernel
theorem dX0_lay_49 : decode cX0_lay 49 = .ok (.aload_n 0, 1) := by decide +kernel
theorem dX0_lay_50 : decode cX0_lay 50 = .ok (.getfield 18, 3) := by decide +kernel
theorem dX0_lay_53 : decode cX0_lay 53 = .ok (.iload_n 1, 1) := by decide +kernel
theorem dX0_lay_54 : decode cX0_lay 54 = .ok (.invokestatic 47, 3) := by decide +kernel
theorem dX0_lay_57 : decode cX0_lay 57 = .ok (.iconst 1, 1) := by decide +kernel
theorem dX0_lay_58 : decode cX0_lay 58 = .ok (.iadd, 1) := by decide +kernel
theorem dX0_lay_59 : decode cX0_lay 59 = .ok (.invokestatic 39, 3) := by decide +kernel
theorem dX0_lay_62 : decode cX0_lay 62 = .ok (.return_, 1) := by decide +kernel
theorem dX1_init_0 : decode cX1_init 0 = .ok (.aload_n 0, 1) := by decide +kernel
theorem dX1_init_1 : decode cX1_init 1 = .ok (.invokespecial 3, 3) := by decide +kernel
theorem dX1_init_4 : decode cX1_init 4 = .ok (.aload_n 0, 1) := by decide +kernel
theorem dX1_init_5 : decode cX1_init 5 = .ok (.new 9, 3) := by decide +kernel
theorem dX1_init_8 : decode cX1_init 8 = .ok (.dup, 1) := by decide +kernel
theorem dX1_init_9 : decode cX1_init 9 = .ok (.invokespecial 11, 3) := by decide +kernel
theorem dX1_init_12 : decode cX1_init 12 = .ok (.putfield 12, 3) := by decide +kernel
theorem dX1_init_15 : decode cX1_init 15 = .ok (.aload_n 0, 1) := by decide +kernel
theorem dX1_init_16 : decode cX1_init 16 = .ok (.sipush 256, 3) := by decide +kernel
theorem dX1_init_19 : decode cX1_init 19 = .ok (.newarray .int, 2) := by decide +kernel
theorem dX1_init_21 : decode cX1_init 21 = .ok (.putfield 18, 3) := by decide +kernel
theorem dX1_init_24 : decode cX1_init 24 = .ok (.return_, 1) := by decide +kernel
theorem dX1_bestToLay_0 : decode cX1_bestToLay 0 = .ok (.bipush (-9), 2) := by decide +kernel
theorem dX1_bestToLay_2 : decode cX1_bestToLay 2 = .ok (.istore 5, 2) := by decide +kernel
theorem dX1_bestToLay_4 : decode cX1_bestToLay 4 = .ok (.bipush 25, 2) := by decide +kernel
theorem dX1_bestToLay_6 : decode cX1_bestToLay 6 = .ok (.istore 6, 2) := by decide +kernel
theorem dX1_bestToLay_8 : decode cX1_bestToLay 8 = .ok (.iconst 0, 1) := by decide +kernel
theorem dX1_bestToLay_9 : decode cX1_bestToLay 9 = .ok (.istore 7, 2) := by decide +kernel
theorem dX1_bestToLay_11 : decode cX1_bestToLay 11 = .ok (.iload 7, 2) := by decide +kernel
theorem dX1_bestToLay_13 : decode cX1_bestToLay 13 = .ok (.bipush 24, 2) := by decide +kernel
theorem dX1_bestToLay_15 : decode cX1_bestToLay 15 = .ok (.if_icmp .ge 67, 3) := by decide +kernel
theorem dX1_bestToLay_18 : decode cX1_bestToLay 18 = .ok (.iload 4, 2) := by decide +kernel
theorem dX1_bestToLay_20 : decode cX1_bestToLay 20 = .ok (.iload 7, 2) := by decide +kernel
theorem dX1_bestToLay_22 : decode cX1_bestToLay 22 = .ok (.invokestatic 22, 3) := by decide +kernel
theorem dX1_bestToLay_25 : decode cX1_bestToLay 25 = .ok (.ifCond .eq 51, 3) := by decide +kernel
theorem dX1_bestToLay_28 : decode cX1_bestToLay 28 = .ok (.aload_n 0, 1) := by decide +kernel
theorem dX1_bestToLay_29 : decode cX1_bestToLay 29 = .ok (.getfield 12, 3) := by decide +kernel
theorem dX1_bestToLay_32 : decode cX1_bestToLay 32 = .ok (.iload_n 1, 1) := by decide +kernel
theorem dX1_bestToLay_33 : decode cX1_bestToLay 33 = .ok (.iload_n 2, 1) := by decide +kernel
theorem dX1_bestToLay_34 : decode cX1_bestToLay 34 = .ok (.iload_n 3, 1) := by decide +kernel
theorem dX1_bestToLay_35 : decode cX1_bestToLay 35 = .ok (.iconst 1, 1) := by decide +kernel
theorem dX1_bestToLay_36 : decode cX1_bestToLay 36 = .ok (.iload 7, 2) := by decide +kernel
theorem dX1_bestToLay_38 : decode cX1_bestToLay 38 = .ok (.ishl, 1) := by decide +kernel
theorem dX1_bestToLay_39 : decode cX1_bestToLay 39 = .ok (.ior, 1) := by decide +kernel
theorem dX1_bestToLay_40 : decode cX1_bestToLay 40 = .ok (.invokevirtual 26, 3) := by decide +kernel
theorem dX1_bestToLay_43 : decode cX1_bestToLay 43 = .ok (.istore 8, 2) := by decide +kernel
theorem dX1_bestToLay_45 : decode cX1_bestToLay 45 = .ok (.iload 8, 2) := by decide +kernel
theorem dX1_bestToLay_47 : decode cX1_bestToLay 47 = .ok (.bipush (-9), 2) := by decide +kernel
theorem dX1_bestToLay_49 : decode cX1_bestToLay 49 = .ok (.if_icmp .ne 8, 3) := by decide +kernel
theorem dX1_bestToLay_52 : decode cX1_bestToLay 52 = .ok (.bipush 24, 2) := by decide +kernel
theorem dX1_bestToLay_54 : decode cX1_bestToLay 54 = .ok (.goto 5, 3) := by decide +kernel
theorem dX1_bestToLay_57 : decode cX1_bestToLay 57 = .ok (.iload 8, 2) := by decide +kernel
theorem dX1_bestToLay_59 : decode cX1_bestToLay 59 = .ok (.istore 9, 2) := by decide +kernel
theorem dX1_bestToLay_61 : decode cX1_bestToLay 61 = .ok (.iload 9, 2) := by decide +kernel
theorem dX1_bestToLay_63 : decode cX1_bestToLay 63 = .ok (.iload 6, 2) := by decide +kernel
theorem dX1_bestToLay_65 : decode cX1_bestToLay 65 = .ok (.if_icmp .ge 11, 3) := by decide +kernel
theorem dX1_bestToLay_68 : decode cX1_bestToLay 68 = .ok (.iload 9, 2) := by decide +kernel
theorem dX1_bestToLay_70 : decode cX1_bestToLay 70 = .ok (.istore 6, 2) := by decide +kernel
theorem dX1_bestToLay_72 : decode cX1_bestToLay 72 = .ok (.iload 7, 2) := by decide +kernel
theorem dX1_bestToLay_74 : decode cX1_bestToLay 74 = .ok (.istore 5, 2) := by decide +kernel
theorem dX1_bestToLay_76 : decode cX1_bestToLay 76 = .ok (.iinc 7 1, 3) := by decide +kernel
theorem dX1_bestToLay_79 : decode cX1_bestToLay 79 = .ok (.goto (-68), 3) := by decide +kernel
theorem dX1_bestToLay_82 : decode cX1_bestToLay 82 = .ok (.iload 5, 2) := by decide +kernel
theorem dX1_bestToLay_84 : decode cX1_bestToLay 84 = .ok (.ireturn, 1) := by decide +kernel
theorem dX1_leastJoining_0 : decode cX1_leastJoining 0 = .ok (.iconst 1, 1) := by decide +kernel
theorem dX1_leastJoining_1 : decode cX1_leastJoining 1 = .ok (.iload_n 3, 1) := by decide +kernel
theorem dX1_leastJoining_2 : decode cX1_leastJoining 2 = .ok (.invokestatic 30, 3) := by decide +kernel
theorem dX1_leastJoining_5 : decode cX1_leastJoining 5 = .ok (.ishl, 1) := by decide +kernel
theorem dX1_leastJoining_6 : decode cX1_leastJoining 6 = .ok (.istore 4, 2) := by decide +kernel
theorem dX1_leastJoining_8 : decode cX1_leastJoining 8 = .ok (.iload_n 3, 1) := by decide +kernel
theorem dX1_leastJoining_9 : decode cX1_leastJoining 9 = .ok (.istore 5, 2) := by decide +kernel
theorem dX1_leastJoining_11 : decode cX1_leastJoining 11 = .ok (.iconst 0, 1) := by decide +kernel
theorem dX1_leastJoining_12 : decode cX1_leastJoining 12 = .ok (.istore 6, 2) := by decide +kernel
theorem dX1_leastJoining_14 : decode cX1_leastJoining 14 = .ok (.iconst 0, 1) := by decide +kernel
theorem dX1_leastJoining_15 : decode cX1_leastJoining 15 = .ok (.istore 7, 2) := by decide +kernel
theorem dX1_leastJoining_17 : decode cX1_leastJoining 17 = .ok (.iload 7, 2) := by decide +kernel
theorem dX1_leastJoining_19 : decode cX1_leastJoining 19 = .ok (.iload 4, 2) := by decide +kernel
theorem dX1_leastJoining_21 : decode cX1_leastJoining 21 = .ok (.if_icmp .ge 46, 3) := by decide +kernel
theorem dX1_leastJoining_24 : decode cX1_leastJoining 24 = .ok (.iload 6, 2) := by decide +kernel
theorem dX1_leastJoining_26 : decode cX1_leastJoining 26 = .ok (.invokestatic 30, 3) := by decide +kernel
theorem dX1_leastJoining_29 : decode cX1_leastJoining 29 = .ok (.iload 5, 2) := by decide +kernel
theorem dX1_leastJoining_31 : decode cX1_leastJoining 31 = .ok (.invokestatic 30, 3) := by decide +kernel
theorem dX1_leastJoining_34 : decode cX1_leastJoining 34 = .ok (.if_icmp .ge 19, 3) := by decide +kernel
theorem dX1_leastJoining_37 : decode cX1_leastJoining 37 = .ok (.aload_n 0, 1) := by decide +kernel
theorem dX1_leastJoining_38 : decode cX1_leastJoining 38 = .ok (.iload_n 1, 1) := by decide +kernel
theorem dX1_leastJoining_39 : decode cX1_leastJoining 39 = .ok (.iload_n 2, 1) := by decide +kernel
theorem dX1_leastJoining_40 : decode cX1_leastJoining 40 = .ok (.iload 6, 2) := by decide +kernel
theorem dX1_leastJoining_42 : decode cX1_leastJoining 42 = .ok (.ior, 1) := by decide +kernel
theorem dX1_leastJoining_43 : decode cX1_leastJoining 43 = .ok (.invokevirtual 36, 3) := by decide +kernel
theorem dX1_leastJoining_46 : decode cX1_leastJoining 46 = .ok (.ifCond .eq 7, 3) := by decide +kernel
theorem dX1_leastJoining_49 : decode cX1_leastJoining 49 = .ok (.iload 6, 2) := by decide +kernel
theorem dX1_leastJoining_51 : decode cX1_leastJoining 51 = .ok (.istore 5, 2) := by decide +kernel
theorem dX1_leastJoining_53 : decode cX1_leastJoining 53 = .ok (.iload 6, 2) := by decide +kernel
theorem dX1_leastJoining_55 : decode cX1_leastJoining 55 = .ok (.iload_n 3, 1) := by decide +kernel
theorem dX1_leastJoining_56 : decode cX1_leastJoining 56 = .ok (.isub, 1) := by decide +kernel
theorem dX1_leastJoining_57 : decode cX1_leastJoining 57 = .ok (.iload_n 3, 1) := by decide +kernel
theorem dX1_leastJoining_58 : decode cX1_leastJoining 58 = .ok (.iand, 1) := by decide +kernel
theorem dX1_leastJoining_59 : decode cX1_leastJoining 59 = .ok (.istore 6, 2) := by decide +kernel
theorem dX1_leastJoining_61 : decode cX1_leastJoining 61 = .ok (.iinc 7 1, 3) := by decide +kernel
theorem dX1_leastJoining_64 : decode cX1_leastJoining 64 = .ok (.goto (-47), 3) := by decide +kernel
theorem dX1_leastJoining_67 : decode cX1_leastJoining 67 = .ok (.iload 5, 2) := by decide +kernel
theorem dX1_leastJoining_69 : decode cX1_leastJoining 69 = .ok (.ireturn, 1) := by decide +kernel
theorem dX1_joinsAll_0 : decode cX1_joinsAll 0 = .ok (.iload_n 1, 1) := by decide +kernel
theorem dX1_joinsAll_1 : decode cX1_joinsAll 1 = .ok (.iload_n 1, 1) := by decide +kernel
theorem dX1_joinsAll_2 : decode cX1_joinsAll 2 = .ok (.ineg, 1) := by decide +kernel
theorem dX1_joinsAll_3 : decode cX1_joinsAll 3 = .ok (.iand, 1) := by decide +kernel
theorem dX1_joinsAll_4 : decode cX1_joinsAll 4 = .ok (.istore_n 3, 1) := by decide +kernel
theorem dX1_joinsAll_5 : decode cX1_joinsAll 5 = .ok (.iload_n 1, 1) := by decide +kernel
theorem dX1_joinsAll_6 : decode cX1_joinsAll 6 = .ok (.iload_n 2, 1) := by decide +kernel
theorem dX1_joinsAll_7 : decode cX1_joinsAll 7 = .ok (.iconst (-1), 1) := by decide +kernel
theorem dX1_joinsAll_8 : decode cX1_joinsAll 8 = .ok (.ixor, 1) := by decide +kernel
theorem dX1_joinsAll_9 : decode cX1_joinsAll 9 = .ok (.iand, 1) := by decide +kernel
theorem dX1_joinsAll_10 : decode cX1_joinsAll 10 = .ok (.ifCond .ne 23, 3) := by decide +kernel
theorem dX1_joinsAll_13 : decode cX1_joinsAll 13 = .ok (.iload_n 1, 1) := by decide +kernel
theorem dX1_joinsAll_14 : decode cX1_joinsAll 14 = .ok (.aload_n 0, 1) := by decide +kernel
theorem dX1_joinsAll_15 : decode cX1_joinsAll 15 = .ok (.getfield 12, 3) := by decide +kernel
theorem dX1_joinsAll_18 : decode cX1_joinsAll 18 = .ok (.iload_n 3, 1) := by decide +kernel
theorem dX1_joinsAll_19 : decode cX1_joinsAll 19 = .ok (.iload_n 2, 1) := by decide +kernel
theorem dX1_joinsAll_20 : decode cX1_joinsAll 20 = .ok (.invokevirtual 39, 3) := by decide +kernel
theorem dX1_joinsAll_23 : decode cX1_joinsAll 23 = .ok (.iconst (-1), 1) := by decide +kernel
theorem dX1_joinsAll_24 : decode cX1_joinsAll 24 = .ok (.ixor, 1) := by decide +kernel
theorem dX1_joinsAll_25 : decode cX1_joinsAll 25 = .ok (.iand, 1) := by decide +kernel
theorem dX1_joinsAll_26 : decode cX1_joinsAll 26 = .ok (.ifCond .ne 7, 3) := by decide +kernel
theorem dX1_joinsAll_29 : decode cX1_joinsAll 29 = .ok (.iconst 1, 1) := by decide +kernel
theorem dX1_joinsAll_30 : decode cX1_joinsAll 30 = .ok (.goto 4, 3) := by decide +kernel
theorem dX1_joinsAll_33 : decode cX1_joinsAll 33 = .ok (.iconst 0, 1) := by decide +kernel
theorem dX1_joinsAll_34 : decode cX1_joinsAll 34 = .ok (.ireturn, 1) := by decide +kernel
theorem dX1_laidByTurns_0 : decode cX1_laidByTurns 0 = .ok (.iload 4, 2) := by decide +kernel
theorem dX1_laidByTurns_2 : decode cX1_laidByTurns 2 = .ok (.invokestatic 30, 3) := by decide +kernel
theorem dX1_laidByTurns_5 : decode cX1_laidByTurns 5 = .ok (.istore 5, 2) := by decide +kernel
theorem dX1_laidByTurns_7 : decode cX1_laidByTurns 7 = .ok (.iload 4, 2) := by decide +kernel
theorem dX1_laidByTurns_9 : decode cX1_laidByTurns 9 = .ok (.istore 6, 2) := by decide +kernel
theorem dX1_laidByTurns_11 : decode cX1_laidByTurns 11 = .ok (.iconst 1, 1) := by decide +kernel
theorem dX1_laidByTurns_12 : decode cX1_laidByTurns 12 = .ok (.iload 5, 2) := by decide +kernel
theorem dX1_laidByTurns_14 : decode cX1_laidByTurns 14 = .ok (.ishl, 1) := by decide +kernel
theorem dX1_laidByTurns_15 : decode cX1_laidByTurns 15 = .ok (.iconst 1, 1) := by decide +kernel
theorem dX1_laidByTurns_16 : decode cX1_laidByTurns 16 = .ok (.isub, 1) := by decide +kernel
theorem dX1_laidByTurns_17 : decode cX1_laidByTurns 17 = .ok (.istore 7, 2) := by decide +kernel
theorem dX1_laidByTurns_19 : decode cX1_laidByTurns 19 = .ok (.iload 7, 2) := by decide +kernel
theorem dX1_laidByTurns_21 : decode cX1_laidByTurns 21 = .ok (.ifCond .lt 61, 3) := by decide +kernel
theorem dX1_laidByTurns_24 : decode cX1_laidByTurns 24 = .ok (.aload_n 0, 1) := by decide +kernel
theorem dX1_laidByTurns_25 : decode cX1_laidByTurns 25 = .ok (.getfield 12, 3) := by decide +kernel
theorem dX1_laidByTurns_28 : decode cX1_laidByTurns 28 = .ok (.iload_n 1, 1) := by decide +kernel
theorem dX1_laidByTurns_29 : decode cX1_laidByTurns 29 = .ok (.iload_n 2, 1) := by decide +kernel
theorem dX1_laidByTurns_30 : decode cX1_laidByTurns 30 = .ok (.iload_n 3, 1) := by decide +kernel
theorem dX1_laidByTurns_31 : decode cX1_laidByTurns 31 = .ok (.iload 6, 2) := by decide +kernel
theorem dX1_laidByTurns_33 : decode cX1_laidByTurns 33 = .ok (.ior, 1) := by decide +kernel
theorem dX1_laidByTurns_34 : decode cX1_laidByTurns 34 = .ok (.invokevirtual 43, 3) := by decide +kernel
theorem dX1_laidByTurns_37 : decode cX1_laidByTurns 37 = .ok (.istore 8, 2) := by decide +kernel
theorem dX1_laidByTurns_39 : decode cX1_laidByTurns 39 = .ok (.aload_n 0, 1) := by decide +kernel
theorem dX1_laidByTurns_40 : decode cX1_laidByTurns 40 = .ok (.getfield 18, 3) := by decide +kernel
theorem dX1_laidByTurns_43 : decode cX1_laidByTurns 43 = .ok (.iload 7, 2) := by decide +kernel
theorem dX1_laidByTurns_45 : decode cX1_laidByTurns 45 = .ok (.iload 8, 2) := by decide +kernel
theorem dX1_laidByTurns_47 : decode cX1_laidByTurns 47 = .ok (.ifCond .eq 7, 3) := by decide +kernel
theorem dX1_laidByTurns_50 : decode cX1_laidByTurns 50 = .ok (.iconst 0, 1) := by decide +kernel
theorem dX1_laidByTurns_51 : decode cX1_laidByTurns 51 = .ok (.goto 13, 3) := by decide +kernel
theorem dX1_laidByTurns_54 : decode cX1_laidByTurns 54 = .ok (.iconst 1, 1) := by decide +kernel
theorem dX1_laidByTurns_55 : decode cX1_laidByTurns 55 = .ok (.aload_n 0, 1) := by decide +kernel
theorem dX1_laidByTurns_56 : decode cX1_laidByTurns 56 = .ok (.iload 7, 2) := by decide +kernel
theorem dX1_laidByTurns_58 : decode cX1_laidByTurns 58 = .ok (.iload 5, 2) := by decide +kernel
theorem dX1_laidByTurns_60 : decode cX1_laidByTurns 60 = .ok (.invokevirtual 47, 3) := by decide +kernel
theorem dX1_laidByTurns_63 : decode cX1_laidByTurns 63 = .ok (.iadd, 1) := by decide +kernel
theorem dX1_laidByTurns_64 : decode cX1_laidByTurns 64 = .ok (.invokestatic 50, 3) := by decide +kernel
theorem dX1_laidByTurns_67 : decode cX1_laidByTurns 67 = .ok (.iload 6, 2) := by decide +kernel
theorem dX1_laidByTurns_69 : decode cX1_laidByTurns 69 = .ok (.iconst 1, 1) := by decide +kernel
theorem dX1_laidByTurns_70 : decode cX1_laidByTurns 70 = .ok (.isub, 1) := by decide +kernel
theorem dX1_laidByTurns_71 : decode cX1_laidByTurns 71 = .ok (.iload 4, 2) := by decide +kernel
theorem dX1_laidByTurns_73 : decode cX1_laidByTurns 73 = .ok (.iand, 1) := by decide +kernel
theorem dX1_laidByTurns_74 : decode cX1_laidByTurns 74 = .ok (.istore 6, 2) := by decide +kernel
theorem dX1_laidByTurns_76 : decode cX1_laidByTurns 76 = .ok (.iinc 7 (-1), 3) := by decide +kernel
theorem dX1_laidByTurns_79 : decode cX1_laidByTurns 79 = .ok (.goto (-60), 3) := by decide +kernel
theorem dX1_laidByTurns_82 : decode cX1_laidByTurns 82 = .ok (.aload_n 0, 1) := by decide +kernel
theorem dX1_laidByTurns_83 : decode cX1_laidByTurns 83 = .ok (.getfield 18, 3) := by decide +kernel
theorem dX1_laidByTurns_86 : decode cX1_laidByTurns 86 = .ok (.iconst 0, 1) := by decide +kernel
theorem dX1_laidByTurns_87 : decode cX1_laidByTurns 87 = .ok (.invokestatic 54, 3) := by decide +kernel
theorem dX1_laidByTurns_90 : decode cX1_laidByTurns 90 = .ok (.ireturn, 1) := by decide +kernel
theorem dX1_bestOfNext_0 : decode cX1_bestOfNext 0 = .ok (.iload_n 1, 1) := by decide +kernel
theorem dX1_bestOfNext_1 : decode cX1_bestOfNext 1 = .ok (.invokestatic 30, 3) := by decide +kernel
theorem dX1_bestOfNext_4 : decode cX1_bestOfNext 4 = .ok (.iconst 2, 1) := by decide +kernel
theorem dX1_bestOfNext_5 : decode cX1_bestOfNext 5 = .ok (.irem, 1) := by decide +kernel
theorem dX1_bestOfNext_6 : decode cX1_bestOfNext 6 = .ok (.ifCond .ne 7, 3) := by decide +kernel
theorem dX1_bestOfNext_9 : decode cX1_bestOfNext 9 = .ok (.iconst 1, 1) := by decide +kernel
theorem dX1_bestOfNext_10 : decode cX1_bestOfNext 10 = .ok (.goto 4, 3) := by decide +kernel
theorem dX1_bestOfNext_13 : decode cX1_bestOfNext 13 = .ok (.iconst 0, 1) := by decide +kernel
theorem dX1_bestOfNext_14 : decode cX1_bestOfNext 14 = .ok (.istore_n 3, 1) := by decide +kernel
theorem dX1_bestOfNext_15 : decode cX1_bestOfNext 15 = .ok (.iload_n 3, 1) := by decide +kernel
theorem dX1_bestOfNext_16 : decode cX1_bestOfNext 16 = .ok (.ifCond .eq 8, 3) := by decide +kernel
theorem dX1_bestOfNext_19 : decode cX1_bestOfNext 19 = .ok (.bipush 24, 2) := by decide +kernel
theorem dX1_bestOfNext_21 : decode cX1_bestOfNext 21 = .ok (.goto 4, 3) := by decide +kernel
theorem dX1_bestOfNext_24 : decode cX1_bestOfNext 24 = .ok (.iconst 0, 1) := by decide +kernel
theorem dX1_bestOfNext_25 : decode cX1_bestOfNext 25 = .ok (.istore 4, 2) := by decide +kernel
theorem dX1_bestOfNext_27 : decode cX1_bestOfNext 27 = .ok (.iconst 0, 1) := by decide +kernel
theorem dX1_bestOfNext_28 : decode cX1_bestOfNext 28 = .ok (.istore 5, 2) := by decide +kernel
theorem dX1_bestOfNext_30 : decode cX1_bestOfNext 30 = .ok (.iload 5, 2) := by decide +kernel
theorem dX1_bestOfNext_32 : decode cX1_bestOfNext 32 = .ok (.iload_n 2, 1) := by decide +kernel
theorem dX1_bestOfNext_33 : decode cX1_bestOfNext 33 = .ok (.if_icmp .ge 56, 3) := by decide +kernel
theorem dX1_bestOfNext_36 : decode cX1_bestOfNext 36 = .ok (.iload_n 1, 1) := by decide +kernel
theorem dX1_bestOfNext_37 : decode cX1_bestOfNext 37 = .ok (.iload 5, 2) := by decide +kernel
theorem dX1_bestOfNext_39 : decode cX1_bestOfNext 39 = .ok (.invokestatic 22, 3) := by decide +kernel
theorem dX1_bestOfNext_42 : decode cX1_bestOfNext 42 = .ok (.ifCond .ne 41, 3) := by decide +kernel
theorem dX1_bestOfNext_45 : decode cX1_bestOfNext 45 = .ok (.aload_n 0, 1) := by decide +kernel
theorem dX1_bestOfNext_46 : decode cX1_bestOfNext 46 = .ok (.getfield 18, 3) := by decide +kernel
theorem dX1_bestOfNext_49 : decode cX1_bestOfNext 49 = .ok (.iload_n 1, 1) := by decide +kernel
theorem dX1_bestOfNext_50 : decode cX1_bestOfNext 50 = .ok (.iconst 1, 1) := by decide +kernel
theorem dX1_bestOfNext_51 : decode cX1_bestOfNext 51 = .ok (.iload 5, 2) := by decide +kernel
theorem dX1_bestOfNext_53 : decode cX1_bestOfNext 53 = .ok (.ishl, 1) := by decide +kernel
theorem dX1_bestOfNext_54 : decode cX1_bestOfNext 54 = .ok (.ior, 1) := by decide +kernel
theorem dX1_bestOfNext_55 : decode cX1_bestOfNext 55 = .ok (.invokestatic 54, 3) := by decide +kernel
theorem dX1_bestOfNext_58 : decode cX1_bestOfNext 58 = .ok (.istore 6, 2) := by decide +kernel
theorem dX1_bestOfNext_60 : decode cX1_bestOfNext 60 = .ok (.iload_n 3, 1) := by decide +kernel
theorem dX1_bestOfNext_61 : decode cX1_bestOfNext 61 = .ok (.ifCond .eq 13, 3) := by decide +kernel
theorem dX1_bestOfNext_64 : decode cX1_bestOfNext 64 = .ok (.iload 4, 2) := by decide +kernel
theorem dX1_bestOfNext_66 : decode cX1_bestOfNext 66 = .ok (.iload 6, 2) := by decide +kernel
theorem dX1_bestOfNext_68 : decode cX1_bestOfNext 68 = .ok (.invokestatic 58, 3) := by decide +kernel
theorem dX1_bestOfNext_71 : decode cX1_bestOfNext 71 = .ok (.goto 10, 3) := by decide +kernel
theorem dX1_bestOfNext_74 : decode cX1_bestOfNext 74 = .ok (.iload 4, 2) := by decide +kernel
theorem dX1_bestOfNext_76 : decode cX1_bestOfNext 76 = .ok (.iload 6, 2) := by decide +kernel
theorem dX1_bestOfNext_78 : decode cX1_bestOfNext 78 = .ok (.invokestatic 63, 3) := by decide +kernel
theorem dX1_bestOfNext_81 : decode cX1_bestOfNext 81 = .ok (.istore 4, 2) := by decide +kernel
theorem dX1_bestOfNext_83 : decode cX1_bestOfNext 83 = .ok (.iinc 5 1, 3) := by decide +kernel
theorem dX1_bestOfNext_86 : decode cX1_bestOfNext 86 = .ok (.goto (-56), 3) := by decide +kernel
theorem dX1_bestOfNext_89 : decode cX1_bestOfNext 89 = .ok (.iload 4, 2) := by decide +kernel
theorem dX1_bestOfNext_91 : decode cX1_bestOfNext 91 = .ok (.ireturn, 1) := by decide +kernel
theorem dX1_fewestApart_0 : decode cX1_fewestApart 0 = .ok (.iconst 1, 1) := by decide +kernel
theorem dX1_fewestApart_1 : decode cX1_fewestApart 1 = .ok (.iload_n 3, 1) := by decide +kernel
theorem dX1_fewestApart_2 : decode cX1_fewestApart 2 = .ok (.invokestatic 30, 3) := by decide +kernel
theorem dX1_fewestApart_5 : decode cX1_fewestApart 5 = .ok (.ishl, 1) := by decide +kernel
theorem dX1_fewestApart_6 : decode cX1_fewestApart 6 = .ok (.istore 4, 2) := by decide +kernel
theorem dX1_fewestApart_8 : decode cX1_fewestApart 8 = .ok (.aload_n 0, 1) := by decide +kernel
theorem dX1_fewestApart_9 : decode cX1_fewestApart 9 = .ok (.getfield 12, 3) := by decide +kernel
theorem dX1_fewestApart_12 : decode cX1_fewestApart 12 = .ok (.iconst 1, 1) := by decide +kernel
theorem dX1_fewestApart_13 : decode cX1_fewestApart 13 = .ok (.iload_n 1, 1) := by decide +kernel
theorem dX1_fewestApart_14 : decode cX1_fewestApart 14 = .ok (.ishl, 1) := by decide +kernel
theorem dX1_fewestApart_15 : decode cX1_fewestApart 15 = .ok (.invokevirtual 66, 3) := by decide +kernel
theorem dX1_fewestApart_18 : decode cX1_fewestApart 18 = .ok (.iload_n 3, 1) := by decide +kernel
theorem dX1_fewestApart_19 : decode cX1_fewestApart 19 = .ok (.iand, 1) := by decide +kernel
theorem dX1_fewestApart_20 : decode cX1_fewestApart 20 = .ok (.invokestatic 30, 3) := by decide +kernel
theorem dX1_fewestApart_23 : decode cX1_fewestApart 23 = .ok (.istore 5, 2) := by decide +kernel
theorem dX1_fewestApart_25 : decode cX1_fewestApart 25 = .ok (.iconst 1, 1) := by decide +kernel
theorem dX1_fewestApart_26 : decode cX1_fewestApart 26 = .ok (.iload_n 1, 1) := by decide +kernel
theorem dX1_fewestApart_27 : decode cX1_fewestApart 27 = .ok (.ishl, 1) := by decide +kernel
theorem dX1_fewestApart_28 : decode cX1_fewestApart 28 = .ok (.iconst 1, 1) := by decide +kernel
theorem dX1_fewestApart_29 : decode cX1_fewestApart 29 = .ok (.iload_n 2, 1) := by decide +kernel
theorem dX1_fewestApart_30 : decode cX1_fewestApart 30 = .ok (.ishl, 1) := by decide +kernel
theorem dX1_fewestApart_31 : decode cX1_fewestApart 31 = .ok (.ior, 1) := by decide +kernel
theorem dX1_fewestApart_32 : decode cX1_fewestApart 32 = .ok (.istore 6, 2) := by decide +kernel
theorem dX1_fewestApart_34 : decode cX1_fewestApart 34 = .ok (.iconst 0, 1) := by decide +kernel
theorem dX1_fewestApart_35 : decode cX1_fewestApart 35 = .ok (.istore 7, 2) := by decide +kernel
theorem dX1_fewestApart_37 : decode cX1_fewestApart 37 = .ok (.iconst 0, 1) := by decide +kernel
theorem dX1_fewestApart_38 : decode cX1_fewestApart 38 = .ok (.istore 8, 2) := by decide +kernel
theorem dX1_fewestApart_40 : decode cX1_fewestApart 40 = .ok (.iload 8, 2) := by decide +kernel
theorem dX1_fewestApart_42 : decode cX1_fewestApart 42 = .ok (.iload 4, 2) := by decide +kernel
theorem dX1_fewestApart_44 : decode cX1_fewestApart 44 = .ok (.if_icmp .ge 55, 3) := by decide +kernel
theorem dX1_fewestApart_47 : decode cX1_fewestApart 47 = .ok (.iload 7, 2) := by decide +kernel
theorem dX1_fewestApart_49 : decode cX1_fewestApart 49 = .ok (.invokestatic 30, 3) := by decide +kernel
theorem dX1_fewestApart_52 : decode cX1_fewestApart 52 = .ok (.iload 5, 2) := by decide +kernel
theorem dX1_fewestApart_54 : decode cX1_fewestApart 54 = .ok (.if_icmp .ge 31, 3) := by decide +kernel
theorem dX1_fewestApart_57 : decode cX1_fewestApart 57 = .ok (.aload_n 0, 1) := by decide +kernel
theorem dX1_fewestApart_58 : decode cX1_fewestApart 58 = .ok (.getfield 12, 3) := by decide +kernel
theorem dX1_fewestApart_61 : decode cX1_fewestApart 61 = .ok (.iload_n 1, 1) := by decide +kernel
theorem dX1_fewestApart_62 : decode cX1_fewestApart 62 = .ok (.iload_n 2, 1) := by decide +kernel
theorem dX1_fewestApart_63 : decode cX1_fewestApart 63 = .ok (.iload 6, 2) := by decide +kernel
theorem dX1_fewestApart_65 : decode cX1_fewestApart 65 = .ok (.iload_n 3, 1) := by decide +kernel
theorem dX1_fewestApart_66 : decode cX1_fewestApart 66 = .ok (.iload 7, 2) := by decide +kernel
theorem dX1_fewestApart_68 : decode cX1_fewestApart 68 = .ok (.iconst (-1), 1) := by decide +kernel
theorem dX1_fewestApart_69 : decode cX1_fewestApart 69 = .ok (.ixor, 1) := by decide +kernel
theorem dX1_fewestApart_70 : decode cX1_fewestApart 70 = .ok (.iand, 1) := by decide +kernel
theorem dX1_fewestApart_71 : decode cX1_fewestApart 71 = .ok (.ior, 1) := by decide +kernel
theorem dX1_fewestApart_72 : decode cX1_fewestApart 72 = .ok (.invokevirtual 43, 3) := by decide +kernel
theorem dX1_fewestApart_75 : decode cX1_fewestApart 75 = .ok (.ifCond .ne 10, 3) := by decide +kernel
theorem dX1_fewestApart_78 : decode cX1_fewestApart 78 = .ok (.iload 7, 2) := by decide +kernel
theorem dX1_fewestApart_80 : decode cX1_fewestApart 80 = .ok (.invokestatic 30, 3) := by decide +kernel
theorem dX1_fewestApart_83 : decode cX1_fewestApart 83 = .ok (.istore 5, 2) := by decide +kernel
theorem dX1_fewestApart_85 : decode cX1_fewestApart 85 = .ok (.iload 7, 2) := by decide +kernel
theorem dX1_fewestApart_87 : decode cX1_fewestApart 87 = .ok (.iload_n 3, 1) := by decide +kernel
theorem dX1_fewestApart_88 : decode cX1_fewestApart 88 = .ok (.isub, 1) := by decide +kernel
theorem dX1_fewestApart_89 : decode cX1_fewestApart 89 = .ok (.iload_n 3, 1) := by decide +kernel
theorem dX1_fewestApart_90 : decode cX1_fewestApart 90 = .ok (.iand, 1) := by decide +kernel
theorem dX1_fewestApart_91 : decode cX1_fewestApart 91 = .ok (.istore 7, 2) := by decide +kernel
theorem dX1_fewestApart_93 : decode cX1_fewestApart 93 = .ok (.iinc 8 1, 3) := by decide +kernel
theorem dX1_fewestApart_96 : decode cX1_fewestApart 96 = .ok (.goto (-56), 3) := by decide +kernel
theorem dX1_fewestApart_99 : decode cX1_fewestApart 99 = .ok (.iload 5, 2) := by decide +kernel
theorem dX1_fewestApart_101 : decode cX1_fewestApart 101 = .ok (.ireturn, 1) := by decide +kernel
theorem dX2_init_0 : decode cX2_init 0 = .ok (.aload_n 0, 1) := by decide +kernel
theorem dX2_init_1 : decode cX2_init 1 = .ok (.invokespecial 3, 3) := by decide +kernel
theorem dX2_init_4 : decode cX2_init 4 = .ok (.aload_n 0, 1) := by decide +kernel
theorem dX2_init_5 : decode cX2_init 5 = .ok (.new 9, 3) := by decide +kernel
theorem dX2_init_8 : decode cX2_init 8 = .ok (.dup, 1) := by decide +kernel
theorem dX2_init_9 : decode cX2_init 9 = .ok (.invokespecial 11, 3) := by decide +kernel
theorem dX2_init_12 : decode cX2_init 12 = .ok (.putfield 12, 3) := by decide +kernel
theorem dX2_init_15 : decode cX2_init 15 = .ok (.return_, 1) := by decide +kernel
theorem dX2_readInto_0 : decode cX2_readInto 0 = .ok (.aload_n 1, 1) := by decide +kernel
theorem dX2_readInto_1 : decode cX2_readInto 1 = .ok (.invokevirtual 18, 3) := by decide +kernel
theorem dX2_readInto_4 : decode cX2_readInto 4 = .ok (.aload_n 0, 1) := by decide +kernel
theorem dX2_readInto_5 : decode cX2_readInto 5 = .ok (.iconst 0, 1) := by decide +kernel
theorem dX2_readInto_6 : decode cX2_readInto 6 = .ok (.putfield 23, 3) := by decide +kernel
theorem dX2_readInto_9 : decode cX2_readInto 9 = .ok (.iconst 0, 1) := by decide +kernel
theorem dX2_readInto_10 : decode cX2_readInto 10 = .ok (.istore_n 2, 1) := by decide +kernel
theorem dX2_readInto_11 : decode cX2_readInto 11 = .ok (.aload_n 0, 1) := by decide +kernel
theorem dX2_readInto_12 : decode cX2_readInto 12 = .ok (.invokevirtual 27, 3) := by decide +kernel
theorem dX2_readInto_15 : decode cX2_readInto 15 = .ok (.aload_n 0, 1) := by decide +kernel
theorem dX2_readInto_16 : decode cX2_readInto 16 = .ok (.getfield 30, 3) := by decide +kernel
theorem dX2_readInto_19 : decode cX2_readInto 19 = .ok (.ifCond .eq 36, 3) := by decide +kernel
theorem dX2_readInto_22 : decode cX2_readInto 22 = .ok (.iload_n 2, 1) := by decide +kernel
theorem dX2_readInto_23 : decode cX2_readInto 23 = .ok (.sipush 300, 3) := by decide +kernel
theorem dX2_readInto_26 : decode cX2_readInto 26 = .ok (.if_icmp .ge 29, 3) := by decide +kernel
theorem dX2_readInto_29 : decode cX2_readInto 29 = .ok (.aload_n 0, 1) := by decide +kernel
theorem dX2_readInto_30 : decode cX2_readInto 30 = .ok (.aload_n 1, 1) := by decide +kernel
theorem dX2_readInto_31 : decode cX2_readInto 31 = .ok (.invokevirtual 33, 3) := by decide +kernel
theorem dX2_readInto_34 : decode cX2_readInto 34 = .ok (.ifCond .ne 11, 3) := by decide +kernel
theorem dX2_readInto_37 : decode cX2_readInto 37 = .ok (.bipush (-10), 2) := by decide +kernel
theorem dX2_readInto_39 : decode cX2_readInto 39 = .ok (.aload_n 0, 1) := by decide +kernel
theorem dX2_readInto_40 : decode cX2_readInto 40 = .ok (.getfield 37, 3) := by decide +kernel
theorem dX2_readInto_43 : decode cX2_readInto 43 = .ok (.isub, 1) := by decide +kernel
theorem dX2_readInto_44 : decode cX2_readInto 44 = .ok (.ireturn, 1) := by decide +kernel
theorem dX2_readInto_45 : decode cX2_readInto 45 = .ok (.iinc 2 1, 3) := by decide +kernel
theorem dX2_readInto_48 : decode cX2_readInto 48 = .ok (.aload_n 0, 1) := by decide +kernel
theorem dX2_readInto_49 : decode cX2_readInto 49 = .ok (.invokevirtual 27, 3) := by decide +kernel
theorem dX2_readInto_52 : decode cX2_readInto 52 = .ok (.goto (-37), 3) := by decide +kernel
theorem dX2_readInto_55 : decode cX2_readInto 55 = .ok (.iload_n 2, 1) := by decide +kernel
theorem dX2_readInto_56 : decode cX2_readInto 56 = .ok (.ireturn, 1) := by decide +kernel
theorem dX2_readItem_0 : decode cX2_readItem 0 = .ok (.iconst 0, 1) := by decide +kernel
theorem dX2_readItem_1 : decode cX2_readItem 1 = .ok (.istore_n 2, 1) := by decide +kernel
theorem dX2_readItem_2 : decode cX2_readItem 2 = .ok (.aload_n 0, 1) := by decide +kernel
theorem dX2_readItem_3 : decode cX2_readItem 3 = .ok (.ldc 40, 2) := by decide +kernel
theorem dX2_readItem_5 : decode cX2_readItem 5 = .ok (.invokevirtual 42, 3) := by decide +kernel
theorem dX2_readItem_8 : decode cX2_readItem 8 = .ok (.ifCond .eq 12, 3) := by decide +kernel
theorem dX2_readItem_11 : decode cX2_readItem 11 = .ok (.aload_n 0, 1) := by decide +kernel
theorem dX2_readItem_12 : decode cX2_readItem 12 = .ok (.aload_n 1, 1) := by decide +kernel
theorem dX2_readItem_13 : decode cX2_readItem 13 = .ok (.invokevirtual 46, 3) := by decide +kernel
theorem dX2_readItem_16 : decode cX2_readItem 16 = .ok (.istore_n 2, 1) := by decide +kernel
theorem dX2_readItem_17 : decode cX2_readItem 17 = .ok (.goto 36, 3) := by decide +kernel
theorem dX2_readItem_20 : decode cX2_readItem 20 = .ok (.aload_n 0, 1) := by decide +kernel
theorem dX2_readItem_21 : decode cX2_readItem 21 = .ok (.ldc 49, 2) := by decide +kernel
theorem dX2_readItem_23 : decode cX2_readItem 23 = .ok (.invokevirtual 42, 3) := by decide +kernel
theorem dX2_readItem_26 : decode cX2_readItem 26 = .ok (.ifCond .eq 12, 3) := by decide +kernel
theorem dX2_readItem_29 : decode cX2_readItem 29 = .ok (.aload_n 0, 1) := by decide +kernel
theorem dX2_readItem_30 : decode cX2_readItem 30 = .ok (.aload_n 1, 1) := by decide +kernel
theorem dX2_readItem_31 : decode cX2_readItem 31 = .ok (.invokevirtual 51, 3) := by decide +kernel
theorem dX2_readItem_34 : decode cX2_readItem 34 = .ok (.istore_n 2, 1) := by decide +kernel
theorem dX2_readItem_35 : decode cX2_readItem 35 = .ok (.goto 18, 3) := by decide +kernel
theorem dX2_readItem_38 : decode cX2_readItem 38 = .ok (.aload_n 0, 1) := by decide +kernel
theorem dX2_readItem_39 : decode cX2_readItem 39 = .ok (.ldc 54, 2) := by decide +kernel
theorem dX2_readItem_41 : decode cX2_readItem 41 = .ok (.invokevirtual 42, 3) := by decide +kernel
theorem dX2_readItem_44 : decode cX2_readItem 44 = .ok (.ifCond .eq 9, 3) := by decide +kernel
theorem dX2_readItem_47 : decode cX2_readItem 47 = .ok (.aload_n 0, 1) := by decide +kernel
theorem dX2_readItem_48 : decode cX2_readItem 48 = .ok (.aload_n 1, 1) := by decide +kernel
theorem dX2_readItem_49 : decode cX2_readItem 49 = .ok (.invokevirtual 56, 3) := by decide +kernel
theorem dX2_readItem_52 : decode cX2_readItem 52 = .ok (.istore_n 2, 1) := by decide +kernel
theorem dX2_readItem_53 : decode cX2_readItem 53 = .ok (.iload_n 2, 1) := by decide +kernel
theorem dX2_readItem_54 : decode cX2_readItem 54 = .ok (.ifCond .ne 5, 3) := by decide +kernel
theorem dX2_readItem_57 : decode cX2_readItem 57 = .ok (.iconst 0, 1) := by decide +kernel
theorem dX2_readItem_58 : decode cX2_readItem 58 = .ok (.ireturn, 1) := by decide +kernel
theorem dX2_readItem_59 : decode cX2_readItem 59 = .ok (.aload_n 0, 1) := by decide +kernel
theorem dX2_readItem_60 : decode cX2_readItem 60 = .ok (.invokevirtual 27, 3) := by decide +kernel
theorem dX2_readItem_63 : decode cX2_readItem 63 = .ok (.aload_n 0, 1) := by decide +kernel
theorem dX2_readItem_64 : decode cX2_readItem 64 = .ok (.getfield 30, 3) := by decide +kernel
theorem dX2_readItem_67 : decode cX2_readItem 67 = .ok (.iconst 3, 1) := by decide +kernel
theorem dX2_readItem_68 : decode cX2_readItem 68 = .ok (.if_icmp .ne 7, 3) := by decide +kernel
theorem dX2_readItem_71 : decode cX2_readItem 71 = .ok (.iconst 1, 1) := by decide +kernel
theorem dX2_readItem_72 : decode cX2_readItem 72 = .ok (.goto 4, 3) := by decide +kernel
theorem dX2_readItem_75 : decode cX2_readItem 75 = .ok (.iconst 0, 1) := by decide +kernel
theorem dX2_readItem_76 : decode cX2_readItem 76 = .ok (.ireturn, 1) := by decide +kernel
theorem dX2_readRow_0 : decode cX2_readRow 0 = .ok (.aload_n 1, 1) := by decide +kernel
theorem dX2_readRow_1 : decode cX2_readRow 1 = .ok (.invokevirtual 59, 3) := by decide +kernel
theorem dX2_readRow_4 : decode cX2_readRow 4 = .ok (.ifCond .ne 5, 3) := by decide +kernel
theorem dX2_readRow_7 : decode cX2_readRow 7 = .ok (.iconst 0, 1) := by decide +kernel
theorem dX2_readRow_8 : decode cX2_readRow 8 = .ok (.ireturn, 1) := by decide +kernel
theorem dX2_readRow_9 : decode cX2_readRow 9 = .ok (.aload_n 0, 1) := by decide +kernel
theorem dX2_readRow_10 : decode cX2_readRow 10 = .ok (.invokevirtual 27, 3) := by decide +kernel
theorem dX2_readRow_13 : decode cX2_readRow 13 = .ok (.aload_n 0, 1) := by decide +kernel
theorem dX2_readRow_14 : decode cX2_readRow 14 = .ok (.getfield 30, 3) := by decide +kernel
theorem dX2_readRow_17 : decode cX2_readRow 17 = .ok (.iconst 1, 1) := by decide +kernel
theorem dX2_readRow_18 : decode cX2_readRow 18 = .ok (.if_icmp .ne 19, 3) := by decide +kernel
theorem dX2_readRow_21 : decode cX2_readRow 21 = .ok (.aload_n 1, 1) := by decide +kernel
theorem dX2_readRow_22 : decode cX2_readRow 22 = .ok (.aload_n 0, 1) := by decide +kernel
theorem dX2_readRow_23 : decode cX2_readRow 23 = .ok (.getfield 23, 3) := by decide +kernel
theorem dX2_readRow_26 : decode cX2_readRow 26 = .ok (.aload_n 0, 1) := by decide +kernel
theorem dX2_readRow_27 : decode cX2_readRow 27 = .ok (.getfield 37, 3) := by decide +kernel
theorem dX2_readRow_30 : decode cX2_readRow 30 = .ok (.isub, 1) := by decide +kernel
theorem dX2_readRow_31 : decode cX2_readRow 31 = .ok (.invokevirtual 63, 3) := by decide +kernel
theorem dX2_readRow_34 : decode cX2_readRow 34 = .ok (.ifCond .ne 5, 3) := by decide +kernel
theorem dX2_readRow_37 : decode cX2_readRow 37 = .ok (.iconst 0, 1) := by decide +kernel
theorem dX2_readRow_38 : decode cX2_readRow 38 = .ok (.ireturn, 1) := by decide +kernel
theorem dX2_readRow_39 : decode cX2_readRow 39 = .ok (.aload_n 0, 1) := by decide +kernel
theorem dX2_readRow_40 : decode cX2_readRow 40 = .ok (.getfield 37, 3) := by decide +kernel
theorem dX2_readRow_43 : decode cX2_readRow 43 = .ok (.istore_n 2, 1) := by decide +kernel
theorem dX2_readRow_44 : decode cX2_readRow 44 = .ok (.iload_n 2, 1) := by decide +kernel
theorem dX2_readRow_45 : decode cX2_readRow 45 = .ok (.aload_n 0, 1) := by decide +kernel
theorem dX2_readRow_46 : decode cX2_readRow 46 = .ok (.getfield 23, 3) := by decide +kernel
theorem dX2_readRow_49 : decode cX2_readRow 49 = .ok (.if_icmp .ge 26, 3) := by decide +kernel
theorem dX2_readRow_52 : decode cX2_readRow 52 = .ok (.aload_n 1, 1) := by decide +kernel
theorem dX2_readRow_53 : decode cX2_readRow 53 = .ok (.aload_n 0, 1) := by decide +kernel
theorem dX2_readRow_54 : decode cX2_readRow 54 = .ok (.getfield 12, 3) := by decide +kernel
theorem dX2_readRow_57 : decode cX2_readRow 57 = .ok (.iload_n 2, 1) := by decide +kernel
theorem dX2_readRow_58 : decode cX2_readRow 58 = .ok (.invokevirtual 67, 3) := by decide +kernel
theorem dX2_readRow_61 : decode cX2_readRow 61 = .ok (.invokevirtual 71, 3) := by decide +kernel
theorem dX2_readRow_64 : decode cX2_readRow 64 = .ok (.ifCond .ne 5, 3) := by decide +kernel
theorem dX2_readRow_67 : decode cX2_readRow 67 = .ok (.iconst 0, 1) := by decide +kernel
theorem dX2_readRow_68 : decode cX2_readRow 68 = .ok (.ireturn, 1) := by decide +kernel
theorem dX2_readRow_69 : decode cX2_readRow 69 = .ok (.iinc 2 1, 3) := by decide +kernel
theorem dX2_readRow_72 : decode cX2_readRow 72 = .ok (.goto (-28), 3) := by decide +kernel
theorem dX2_readRow_75 : decode cX2_readRow 75 = .ok (.iconst 1, 1) := by decide +kernel
theorem dX2_readRow_76 : decode cX2_readRow 76 = .ok (.ireturn, 1) := by decide +kernel
theorem dX2_readWalker_0 : decode cX2_readWalker 0 = .ok (.aload_n 1, 1) := by decide +kernel
theorem dX2_readWalker_1 : decode cX2_readWalker 1 = .ok (.getfield 74, 3) := by decide +kernel
theorem dX2_readWalker_4 : decode cX2_readWalker 4 = .ok (.iconst 4, 1) := by decide +kernel
theorem dX2_readWalker_5 : decode cX2_readWalker 5 = .ok (.if_icmp .lt 5, 3) := by decide +kernel
theorem dX2_readWalker_8 : decode cX2_readWalker 8 = .ok (.iconst 0, 1) := by decide +kernel
theorem dX2_readWalker_9 : decode cX2_readWalker 9 = .ok (.ireturn, 1) := by decide +kernel
theorem dX2_readWalker_10 : decode cX2_readWalker 10 = .ok (.aload_n 0, 1) := by decide +kernel
theorem dX2_readWalker_11 : decode cX2_readWalker 11 = .ok (.invokevirtual 27, 3) := by decide +kernel
theorem dX2_readWalker_14 : decode cX2_readWalker 14 = .ok (.aload_n 0, 1) := by decide +kernel
theorem dX2_readWalker_15 : decode cX2_readWalker 15 = .ok (.aload_n 1, 1) := by decide +kernel
theorem dX2_readWalker_16 : decode cX2_readWalker 16 = .ok (.getfield 77, 3) := by decide +kernel
theorem dX2_readWalker_19 : decode cX2_readWalker 19 = .ok (.iconst 1, 1) := by decide +kernel
theorem dX2_readWalker_20 : decode cX2_readWalker 20 = .ok (.isub, 1) := by decide +kernel
theorem dX2_readWalker_21 : decode cX2_readWalker 21 = .ok (.invokevirtual 80, 3) := by decide +kernel
theorem dX2_readWalker_24 : decode cX2_readWalker 24 = .ok (.ifCond .ne 5, 3) := by decide +kernel
theorem dX2_readWalker_27 : decode cX2_readWalker 27 = .ok (.iconst 0, 1) := by decide +kernel
theorem dX2_readWalker_28 : decode cX2_readWalker 28 = .ok (.ireturn, 1) := by decide +kernel
theorem dX2_readWalker_29 : decode cX2_readWalker 29 = .ok (.aload_n 0, 1) := by decide +kernel
theorem dX2_readWalker_30 : decode cX2_readWalker 30 = .ok (.getfield 83, 3) := by decide +kernel
theorem dX2_readWalker_33 : decode cX2_readWalker 33 = .ok (.istore_n 2, 1) := by decide +kernel
theorem dX2_readWalker_34 : decode cX2_readWalker 34 = .ok (.aload_n 0, 1) := by decide +kernel
theorem dX2_readWalker_35 : decode cX2_readWalker 35 = .ok (.invokevirtual 27, 3) := by decide +kernel
theorem dX2_readWalker_38 : decode cX2_readWalker 38 = .ok (.aload_n 0, 1) := by decide +kernel
theorem dX2_readWalker_39 : decode cX2_readWalker 39 = .ok (.aload_n 1, 1) := by decide +kernel
theorem dX2_readWalker_40 : decode cX2_readWalker 40 = .ok (.getfield 77, 3) := by decide +kernel
theorem dX2_readWalker_43 : decode cX2_readWalker 43 = .ok (.iconst 1, 1) := by decide +kernel
theorem dX2_readWalker_44 : decode cX2_readWalker 44 = .ok (.isub, 1) := by decide +kernel
theorem dX2_readWalker_45 : decode cX2_readWalker 45 = .ok (.invokevirtual 80, 3) := by decide +kernel
theorem dX2_readWalker_48 : decode cX2_readWalker 48 = .ok (.ifCond .eq 11, 3) := by decide +kernel
theorem dX2_readWalker_51 : decode cX2_readWalker 51 = .ok (.aload_n 0, 1) := by decide +kernel
theorem dX2_readWalker_52 : decode cX2_readWalker 52 = .ok (.getfield 83, 3) := by decide +kernel
theorem dX2_readWalker_55 : decode cX2_readWalker 55 = .ok (.iload_n 2, 1) := by decide +kernel
theorem dX2_readWalker_56 : decode cX2_readWalker 56 = .ok (.if_icmp .ne 5, 3) := by decide +kernel
theorem dX2_readWalker_59 : decode cX2_readWalker 59 = .ok (.iconst 0, 1) := by decide +kernel
theorem dX2_readWalker_60 : decode cX2_readWalker 60 = .ok (.ireturn, 1) := by decide +kernel
theorem dX2_readWalker_61 : decode cX2_readWalker 61 = .ok (.aload_n 1, 1) := by decide +kernel
theorem dX2_readWalker_62 : decode cX2_readWalker 62 = .ok (.iload_n 2, 1) := by decide +kernel
theorem dX2_readWalker_63 : decode cX2_readWalker 63 = .ok (.aload_n 0, 1) := by decide +kernel
theorem dX2_readWalker_64 : decode cX2_readWalker 64 = .ok (.getfield 83, 3) := by decide +kernel
theorem dX2_readWalker_67 : decode cX2_readWalker 67 = .ok (.invokevirtual 86, 3) := by decide +kernel
theorem dX2_readWalker_70 : decode cX2_readWalker 70 = .ok (.iconst 1, 1) := by decide +kernel
theorem dX2_readWalker_71 : decode cX2_readWalker 71 = .ok (.ireturn, 1) := by decide +kernel
theorem dX2_readSink_0 : decode cX2_readSink 0 = .ok (.aload_n 1, 1) := by decide +kernel
theorem dX2_readSink_1 : decode cX2_readSink 1 = .ok (.getfield 90, 3) := by decide +kernel
theorem dX2_readSink_4 : decode cX2_readSink 4 = .ok (.ifCond .eq 5, 3) := by decide +kernel
theorem dX2_readSink_7 : decode cX2_readSink 7 = .ok (.iconst 0, 1) := by decide +kernel
theorem dX2_readSink_8 : decode cX2_readSink 8 = .ok (.ireturn, 1) := by decide +kernel
theorem dX2_readSink_9 : decode cX2_readSink 9 = .ok (.aload_n 0, 1) := by decide +kernel
theorem dX2_readSink_10 : decode cX2_readSink 10 = .ok (.invokevirtual 27, 3) := by decide +kernel
theorem dX2_readSink_13 : decode cX2_readSink 13 = .ok (.aload_n 0, 1) := by decide +kernel
theorem dX2_readSink_14 : decode cX2_readSink 14 = .ok (.bipush 9, 2) := by decide +kernel
theorem dX2_readSink_16 : decode cX2_readSink 16 = .ok (.invokevirtual 80, 3) := by decide +kernel
theorem dX2_readSink_19 : decode cX2_readSink 19 = .ok (.ifCond .ne 5, 3) := by decide +kernel
theorem dX2_readSink_22 : decode cX2_readSink 22 = .ok (.iconst 0, 1) := by decide +kernel
theorem dX2_readSink_23 : decode cX2_readSink 23 = .ok (.ireturn, 1) := by decide +kernel
theorem dX2_readSink_24 : decode cX2_readSink 24 = .ok (.aload_n 1, 1) := by decide +kernel
theorem dX2_readSink_25 : decode cX2_readSink 25 = .ok (.aload_n 0, 1) := by decide +kernel
theorem dX2_readSink_26 : decode cX2_readSink 26 = .ok (.getfield 83, 3) := by decide +kernel
theorem dX2_readSink_29 : decode cX2_readSink 29 = .ok (.putfield 94, 3) := by decide +kernel
theorem dX2_readSink_32 : decode cX2_readSink 32 = .ok (.aload_n 1, 1) := by decide +kernel
theorem dX2_readSink_33 : decode cX2_readSink 33 = .ok (.iconst 1, 1) := by decide +kernel
theorem dX2_readSink_34 : decode cX2_readSink 34 = .ok (.putfield 90, 3) := by decide +kernel
theorem dX2_readSink_37 : decode cX2_readSink 37 = .ok (.iconst 1, 1) := by decide +kernel
theorem dX2_readSink_38 : decode cX2_readSink 38 = .ok (.ireturn, 1) := by decide +kernel
theorem dX2_isNumberTo_0 : decode cX2_isNumberTo 0 = .ok (.aload_n 0, 1) := by decide +kernel
theorem dX2_isNumberTo_1 : decode cX2_isNumberTo 1 = .ok (.getfield 30, 3) := by decide +kernel
theorem dX2_isNumberTo_4 : decode cX2_isNumberTo 4 = .ok (.iconst 2, 1) := by decide +kernel
theorem dX2_isNumberTo_5 : decode cX2_isNumberTo 5 = .ok (.if_icmp .ne 15, 3) := by decide +kernel
theorem dX2_isNumberTo_8 : decode cX2_isNumberTo 8 = .ok (.aload_n 0, 1) := by decide +kernel
theorem dX2_isNumberTo_9 : decode cX2_isNumberTo 9 = .ok (.getfield 83, 3) := by decide +kernel
theorem dX2_isNumberTo_12 : decode cX2_isNumberTo 12 = .ok (.iload_n 1, 1) := by decide +kernel
theorem dX2_isNumberTo_13 : decode cX2_isNumberTo 13 = .ok (.if_icmp .gt 7, 3) := by decide +kernel
theorem dX2_isNumberTo_16 : decode cX2_isNumberTo 16 = .ok (.iconst 1, 1) := by decide +kernel
theorem dX2_isNumberTo_17 : decode cX2_isNumberTo 17 = .ok (.goto 4, 3) := by decide +kernel
theorem dX2_isNumberTo_20 : decode cX2_isNumberTo 20 = .ok (.iconst 0, 1) := by decide +kernel
theorem dX2_isNumberTo_21 : decode cX2_isNumberTo 21 = .ok (.ireturn, 1) := by decide +kernel
theorem dX2_isWord_0 : decode cX2_isWord 0 = .ok (.aload_n 0, 1) := by decide +kernel
theorem dX2_isWord_1 : decode cX2_isWord 1 = .ok (.getfield 30, 3) := by decide +kernel
theorem dX2_isWord_4 : decode cX2_isWord 4 = .ok (.iconst 1, 1) := by decide +kernel
theorem dX2_isWord_5 : decode cX2_isWord 5 = .ok (.if_icmp .ne 19, 3) := by decide +kernel
theorem dX2_isWord_8 : decode cX2_isWord 8 = .ok (.aload_n 0, 1) := by decide +kernel
theorem dX2_isWord_9 : decode cX2_isWord 9 = .ok (.getfield 23, 3) := by decide +kernel
theorem dX2_isWord_12 : decode cX2_isWord 12 = .ok (.aload_n 0, 1) := by decide +kernel
theorem dX2_isWord_13 : decode cX2_isWord 13 = .ok (.getfield 37, 3) := by decide +kernel
theorem dX2_isWord_16 : decode cX2_isWord 16 = .ok (.isub, 1) := by decide +kernel
theorem dX2_isWord_17 : decode cX2_isWord 17 = .ok (.aload_n 1, 1) := by decide +kernel
theorem dX2_isWord_18 : decode cX2_isWord 18 = .ok (.invokevirtual 96, 3) := by decide +kernel
theorem dX2_isWord_21 : decode cX2_isWord 21 = .ok (.if_icmp .eq 5, 3) := by decide +kernel
theorem dX2_isWord_24 : decode cX2_isWord 24 = .ok (.iconst 0, 1) := by decide +kernel
theorem dX2_isWord_25 : decode cX2_isWord 25 = .ok (.ireturn, 1) := by decide +kernel
theorem dX2_isWord_26 : decode cX2_isWord 26 = .ok (.iconst 0, 1) := by decide +kernel
theorem dX2_isWord_27 : decode cX2_isWord 27 = .ok (.istore_n 2, 1) := by decide +kernel
theorem dX2_isWord_28 : decode cX2_isWord 28 = .ok (.iload_n 2, 1) := by decide +kernel
theorem dX2_isWord_29 : decode cX2_isWord 29 = .ok (.aload_n 1, 1) := by decide +kernel
theorem dX2_isWord_30 : decode cX2_isWord 30 = .ok (.invokevirtual 96, 3) := by decide +kernel
theorem dX2_isWord_33 : decode cX2_isWord 33 = .ok (.if_icmp .ge 32, 3) := by decide +kernel
theorem dX2_isWord_36 : decode cX2_isWord 36 = .ok (.aload_n 0, 1) := by decide +kernel
theorem dX2_isWord_37 : decode cX2_isWord 37 = .ok (.getfield 12, 3) := by decide +kernel
theorem dX2_isWord_40 : decode cX2_isWord 40 = .ok (.aload_n 0, 1) := by decide +kernel
theorem dX2_isWord_41 : decode cX2_isWord 41 = .ok (.getfield 37, 3) := by decide +kernel
theorem dX2_isWord_44 : decode cX2_isWord 44 = .ok (.iload_n 2, 1) := by decide +kernel
theorem dX2_isWord_45 : decode cX2_isWord 45 = .ok (.iadd, 1) := by decide +kernel
theorem dX2_isWord_46 : decode cX2_isWord 46 = .ok (.invokevirtual 67, 3) := by decide +kernel
theorem dX2_isWord_49 : decode cX2_isWord 49 = .ok (.aload_n 1, 1) := by decide +kernel
theorem dX2_isWord_50 : decode cX2_isWord 50 = .ok (.iload_n 2, 1) := by decide +kernel
theorem dX2_isWord_51 : decode cX2_isWord 51 = .ok (.invokevirtual 102, 3) := by decide +kernel
theorem dX2_isWord_54 : decode cX2_isWord 54 = .ok (.if_icmp .eq 5, 3) := by decide +kernel
theorem dX2_isWord_57 : decode cX2_isWord 57 = .ok (.iconst 0, 1) := by decide +kernel
theorem dX2_isWord_58 : decode cX2_isWord 58 = .ok (.ireturn, 1) := by decide +kernel
theorem dX2_isWord_59 : decode cX2_isWord 59 = .ok (.iinc 2 1, 3) := by decide +kernel
theorem dX2_isWord_62 : decode cX2_isWord 62 = .ok (.goto (-34), 3) := by decide +kernel
theorem dX2_isWord_65 : decode cX2_isWord 65 = .ok (.iconst 1, 1) := by decide +kernel
theorem dX2_isWord_66 : decode cX2_isWord 66 = .ok (.ireturn, 1) := by decide +kernel
theorem dX2_toNextToken_0 : decode cX2_toNextToken 0 = .ok (.aload_n 0, 1) := by decide +kernel
theorem dX2_toNextToken_1 : decode cX2_toNextToken 1 = .ok (.aload_n 0, 1) := by decide +kernel
theorem dX2_toNextToken_2 : decode cX2_toNextToken 2 = .ok (.getfield 12, 3) := by decide +kernel
theorem dX2_toNextToken_5 : decode cX2_toNextToken 5 = .ok (.aload_n 0, 1) := by decide +kernel
theorem dX2_toNextToken_6 : decode cX2_toNextToken 6 = .ok (.getfield 23, 3) := by decide +kernel
theorem dX2_toNextToken_9 : decode cX2_toNextToken 9 = .ok (.bipush 32, 2) := by decide +kernel
theorem dX2_toNextToken_11 : decode cX2_toNextToken 11 = .ok (.bipush 32, 2) := by decide +kernel
theorem dX2_toNextToken_13 : decode cX2_toNextToken 13 = .ok (.invokevirtual 106, 3) := by decide +kernel
theorem dX2_toNextToken_16 : decode cX2_toNextToken 16 = .ok (.putfield 37, 3) := by decide +kernel
theorem dX2_toNextToken_19 : decode cX2_toNextToken 19 = .ok (.aload_n 0, 1) := by decide +kernel
theorem dX2_toNextToken_20 : decode cX2_toNextToken 20 = .ok (.getfield 12, 3) := by decide +kernel
theorem dX2_toNextToken_23 : decode cX2_toNextToken 23 = .ok (.aload_n 0, 1) := by decide +kernel
theorem dX2_toNextToken_24 : decode cX2_toNextToken 24 = .ok (.getfield 37, 3) := by decide +kernel
theorem dX2_toNextToken_27 : decode cX2_toNextToken 27 = .ok (.invokevirtual 67, 3) := by decide +kernel
theorem dX2_toNextToken_30 : decode cX2_toNextToken 30 = .ok (.istore_n 1, 1) := by decide +kernel
theorem dX2_toNextToken_31 : decode cX2_toNextToken 31 = .ok (.iload_n 1, 1) := by decide +kernel
theorem dX2_toNextToken_32 : decode cX2_toNextToken 32 = .ok (.ifCond .ge 19, 3) := by decide +kernel
theorem dX2_toNextToken_35 : decode cX2_toNextToken 35 = .ok (.aload_n 0, 1) := by decide +kernel
theorem dX2_toNextToken_36 : decode cX2_toNextToken 36 = .ok (.aload_n 0, 1) := by decide +kernel
theorem dX2_toNextToken_37 : decode cX2_toNextToken 37 = .ok (.getfield 37, 3) := by decide +kernel
theorem dX2_toNextToken_40 : decode cX2_toNextToken 40 = .ok (.putfield 23, 3) := by decide +kernel
theorem dX2_toNextToken_43 : decode cX2_toNextToken 43 = .ok (.aload_n 0, 1) := by decide +kernel
theorem dX2_toNextToken_44 : decode cX2_toNextToken 44 = .ok (.iconst 0, 1) := by decide +kernel
theorem dX2_toNextToken_45 : decode cX2_toNextToken 45 = .ok (.putfield 30, 3) := by decide +kernel
theorem dX2_toNextToken_48 : decode cX2_toNextToken 48 = .ok (.goto 110, 3) := by decide +kernel
theorem dX2_toNextToken_51 : decode cX2_toNextToken 51 = .ok (.iload_n 1, 1) := by decide +kernel
theorem dX2_toNextToken_52 : decode cX2_toNextToken 52 = .ok (.bipush 97, 2) := by decide +kernel
theorem dX2_toNextToken_54 : decode cX2_toNextToken 54 = .ok (.if_icmp .lt 36, 3) := by decide +kernel
theorem dX2_toNextToken_57 : decode cX2_toNextToken 57 = .ok (.iload_n 1, 1) := by decide +kernel
theorem dX2_toNextToken_58 : decode cX2_toNextToken 58 = .ok (.bipush 122, 2) := by decide +kernel
theorem dX2_toNextToken_60 : decode cX2_toNextToken 60 = .ok (.if_icmp .gt 30, 3) := by decide +kernel
theorem dX2_toNextToken_63 : decode cX2_toNextToken 63 = .ok (.aload_n 0, 1) := by decide +kernel
theorem dX2_toNextToken_64 : decode cX2_toNextToken 64 = .ok (.aload_n 0, 1) := by decide +kernel
theorem dX2_toNextToken_65 : decode cX2_toNextToken 65 = .ok (.getfield 12, 3) := by decide +kernel
theorem dX2_toNextToken_68 : decode cX2_toNextToken 68 = .ok (.aload_n 0, 1) := by decide +kernel
theorem dX2_toNextToken_69 : decode cX2_toNextToken 69 = .ok (.getfield 37, 3) := by decide +kernel
theorem dX2_toNextToken_72 : decode cX2_toNextToken 72 = .ok (.bipush 97, 2) := by decide +kernel
theorem dX2_toNextToken_74 : decode cX2_toNextToken 74 = .ok (.bipush 122, 2) := by decide +kernel
theorem dX2_toNextToken_76 : decode cX2_toNextToken 76 = .ok (.invokevirtual 106, 3) := by decide +kernel
theorem dX2_toNextToken_79 : decode cX2_toNextToken 79 = .ok (.putfield 23, 3) := by decide +kernel
theorem dX2_toNextToken_82 : decode cX2_toNextToken 82 = .ok (.aload_n 0, 1) := by decide +kernel
theorem dX2_toNextToken_83 : decode cX2_toNextToken 83 = .ok (.iconst 1, 1) := by decide +kernel
theorem dX2_toNextToken_84 : decode cX2_toNextToken 84 = .ok (.putfield 30, 3) := by decide +kernel
theorem dX2_toNextToken_87 : decode cX2_toNextToken 87 = .ok (.goto 71, 3) := by decide +kernel
theorem dX2_toNextToken_90 : decode cX2_toNextToken 90 = .ok (.iload_n 1, 1) := by decide +kernel
theorem dX2_toNextToken_91 : decode cX2_toNextToken 91 = .ok (.bipush 48, 2) := by decide +kernel
theorem dX2_toNextToken_93 : decode cX2_toNextToken 93 = .ok (.if_icmp .lt 40, 3) := by decide +kernel
theorem dX2_toNextToken_96 : decode cX2_toNextToken 96 = .ok (.iload_n 1, 1) := by decide +kernel
theorem dX2_toNextToken_97 : decode cX2_toNextToken 97 = .ok (.bipush 57, 2) := by decide +kernel
theorem dX2_toNextToken_99 : decode cX2_toNextToken 99 = .ok (.if_icmp .gt 34, 3) := by decide +kernel
theorem dX2_toNextToken_102 : decode cX2_toNextToken 102 = .ok (.aload_n 0, 1) := by decide +kernel
theorem dX2_toNextToken_103 : decode cX2_toNextToken 103 = .ok (.aload_n 0, 1) := by decide +kernel
theorem dX2_toNextToken_104 : decode cX2_toNextToken 104 = .ok (.getfield 12, 3) := by decide +kernel
theorem dX2_toNextToken_107 : decode cX2_toNextToken 107 = .ok (.aload_n 0, 1) := by decide +kernel
theorem dX2_toNextToken_108 : decode cX2_toNextToken 108 = .ok (.getfield 37, 3) := by decide +kernel
theorem dX2_toNextToken_111 : decode cX2_toNextToken 111 = .ok (.bipush 48, 2) := by decide +kernel
theorem dX2_toNextToken_113 : decode cX2_toNextToken 113 = .ok (.bipush 57, 2) := by decide +kernel
theorem dX2_toNextToken_115 : decode cX2_toNextToken 115 = .ok (.invokevirtual 106, 3) := by decide +kernel
theorem dX2_toNextToken_118 : decode cX2_toNextToken 118 = .ok (.putfield 23, 3) := by decide +kernel
theorem dX2_toNextToken_121 : decode cX2_toNextToken 121 = .ok (.aload_n 0, 1) := by decide +kernel
theorem dX2_toNextToken_122 : decode cX2_toNextToken 122 = .ok (.aload_n 0, 1) := by decide +kernel
theorem dX2_toNextToken_123 : decode cX2_toNextToken 123 = .ok (.iload_n 1, 1) := by decide +kernel
theorem dX2_toNextToken_124 : decode cX2_toNextToken 124 = .ok (.invokevirtual 110, 3) := by decide +kernel
theorem dX2_toNextToken_127 : decode cX2_toNextToken 127 = .ok (.putfield 30, 3) := by decide +kernel
theorem dX2_toNextToken_130 : decode cX2_toNextToken 130 = .ok (.goto 28, 3) := by decide +kernel
theorem dX2_toNextToken_133 : decode cX2_toNextToken 133 = .ok (.aload_n 0, 1) := by decide +kernel
theorem dX2_toNextToken_134 : decode cX2_toNextToken 134 = .ok (.aload_n 0, 1) := by decide +kernel
theorem dX2_toNextToken_135 : decode cX2_toNextToken 135 = .ok (.getfield 37, 3) := by decide +kernel
theorem dX2_toNextToken_138 : decode cX2_toNextToken 138 = .ok (.iconst 1, 1) := by decide +kernel
theorem dX2_toNextToken_139 : decode cX2_toNextToken 139 = .ok (.iadd, 1) := by decide +kernel
theorem dX2_toNextToken_140 : decode cX2_toNextToken 140 = .ok (.putfield 23, 3) := by decide +kernel
theorem dX2_toNextToken_143 : decode cX2_toNextToken 143 = .ok (.aload_n 0, 1) := by decide +kernel
theorem dX2_toNextToken_144 : decode cX2_toNextToken 144 = .ok (.iload_n 1, 1) := by decide +kernel
theorem dX2_toNextToken_145 : decode cX2_toNextToken 145 = .ok (.bipush 59, 2) := by decide +kernel
theorem dX2_toNextToken_147 : decode cX2_toNextToken 147 = .ok (.if_icmp .ne 7, 3) := by decide +kernel
theorem dX2_toNextToken_150 : decode cX2_toNextToken 150 = .ok (.iconst 3, 1) := by decide +kernel
theorem dX2_toNextToken_151 : decode cX2_toNextToken 151 = .ok (.goto 4, 3) := by decide +kernel
theorem dX2_toNextToken_154 : decode cX2_toNextToken 154 = .ok (.iconst 4, 1) := by decide +kernel
theorem dX2_toNextToken_155 : decode cX2_toNextToken 155 = .ok (.putfield 30, 3) := by decide +kernel
theorem dX2_toNextToken_158 : decode cX2_toNextToken 158 = .ok (.return_, 1) := by decide +kernel
theorem dX2_sortOfDigits_0 : decode cX2_sortOfDigits 0 = .ok (.aload_n 0, 1) := by decide +kernel
theorem dX2_sortOfDigits_1 : decode cX2_sortOfDigits 1 = .ok (.getfield 23, 3) := by decide +kernel
theorem dX2_sortOfDigits_4 : decode cX2_sortOfDigits 4 = .ok (.aload_n 0, 1) := by decide +kernel
theorem dX2_sortOfDigits_5 : decode cX2_sortOfDigits 5 = .ok (.getfield 37, 3) := by decide +kernel
theorem dX2_sortOfDigits_8 : decode cX2_sortOfDigits 8 = .ok (.isub, 1) := by decide +kernel
theorem dX2_sortOfDigits_9 : decode cX2_sortOfDigits 9 = .ok (.istore_n 2, 1) := by decide +kernel
theorem dX2_sortOfDigits_10 : decode cX2_sortOfDigits 10 = .ok (.iload_n 2, 1) := by decide +kernel
theorem dX2_sortOfDigits_11 : decode cX2_sortOfDigits 11 = .ok (.iconst 2, 1) := by decide +kernel
theorem dX2_sortOfDigits_12 : decode cX2_sortOfDigits 12 = .ok (.if_icmp .gt 14, 3) := by decide +kernel
theorem dX2_sortOfDigits_15 : decode cX2_sortOfDigits 15 = .ok (.iload_n 2, 1) := by decide +kernel
theorem dX2_sortOfDigits_16 : decode cX2_sortOfDigits 16 = .ok (.iconst 2, 1) := by decide +kernel
theorem dX2_sortOfDigits_17 : decode cX2_sortOfDigits 17 = .ok (.if_icmp .ne 11, 3) := by decide +kernel
theorem dX2_sortOfDigits_20 : decode cX2_sortOfDigits 20 = .ok (.iload_n 1, 1) := by decide +kernel
theorem dX2_sortOfDigits_21 : decode cX2_sortOfDigits 21 = .ok (.bipush 48, 2) := by decide +kernel
theorem dX2_sortOfDigits_23 : decode cX2_sortOfDigits 23 = .ok (.if_icmp .ne 5, 3) := by decide +kernel
theorem dX2_sortOfDigits_26 : decode cX2_sortOfDigits 26 = .ok (.iconst 4, 1) := by decide +kernel
theorem dX2_sortOfDigits_27 : decode cX2_sortOfDigits 27 = .ok (.ireturn, 1) := by decide +kernel
theorem dX2_sortOfDigits_28 : decode cX2_sortOfDigits 28 = .ok (.aload_n 0, 1) := by decide +kernel
theorem dX2_sortOfDigits_29 : decode cX2_sortOfDigits 29 = .ok (.iload_n 1, 1) := by decide +kernel
theorem dX2_sortOfDigits_30 : decode cX2_sortOfDigits 30 = .ok (.bipush 48, 2) := by decide +kernel
theorem dX2_sortOfDigits_32 : decode cX2_sortOfDigits 32 = .ok (.isub, 1) := by decide +kernel
theorem dX2_sortOfDigits_33 : decode cX2_sortOfDigits 33 = .ok (.putfield 83, 3) := by decide +kernel
theorem dX2_sortOfDigits_36 : decode cX2_sortOfDigits 36 = .ok (.iload_n 2, 1) := by decide +kernel
theorem dX2_sortOfDigits_37 : decode cX2_sortOfDigits 37 = .ok (.iconst 2, 1) := by decide +kernel
theorem dX2_sortOfDigits_38 : decode cX2_sortOfDigits 38 = .ok (.if_icmp .ne 31, 3) := by decide +kernel
theorem dX2_sortOfDigits_41 : decode cX2_sortOfDigits 41 = .ok (.aload_n 0, 1) := by decide +kernel
theorem dX2_sortOfDigits_42 : decode cX2_sortOfDigits 42 = .ok (.bipush 10, 2) := by decide +kernel
theorem dX2_sortOfDigits_44 : decode cX2_sortOfDigits 44 = .ok (.aload_n 0, 1) := by decide +kernel
theorem dX2_sortOfDigits_45 : decode cX2_sortOfDigits 45 = .ok (.getfield 83, 3) := by decide +kernel
theorem dX2_sortOfDigits_48 : decode cX2_sortOfDigits 48 = .ok (.imul, 1) := by decide +kernel
theorem dX2_sortOfDigits_49 : decode cX2_sortOfDigits 49 = .ok (.aload_n 0, 1) := by decide +kernel
theorem dX2_sortOfDigits_50 : decode cX2_sortOfDigits 50 = .ok (.getfield 12, 3) := by decide +kernel
theorem dX2_sortOfDigits_53 : decode cX2_sortOfDigits 53 = .ok (.aload_n 0, 1) := by decide +kernel
theorem dX2_sortOfDigits_54 : decode cX2_sortOfDigits 54 = .ok (.getfield 37, 3) := by decide +kernel
theorem dX2_sortOfDigits_57 : decode cX2_sortOfDigits 57 = .ok (.iconst 1, 1) := by decide +kernel
theorem dX2_sortOfDigits_58 : decode cX2_sortOfDigits 58 = .ok (.iadd, 1) := by decide +kernel
theorem dX2_sortOfDigits_59 : decode cX2_sortOfDigits 59 = .ok (.invokevirtual 67, 3) := by decide +kernel
theorem dX2_sortOfDigits_62 : decode cX2_sortOfDigits 62 = .ok (.iadd, 1) := by decide +kernel
theorem dX2_sortOfDigits_63 : decode cX2_sortOfDigits 63 = .ok (.bipush 48, 2) := by decide +kernel
theorem dX2_sortOfDigits_65 : decode cX2_sortOfDigits 65 = .ok (.isub, 1) := by decide +kernel
theorem dX2_sortOfDigits_66 : decode cX2_sortOfDigits 66 = .ok (.putfield 83, 3) := by decide +kernel
theorem dX2_sortOfDigits_69 : decode cX2_sortOfDigits 69 = .ok (.iconst 2, 1) := by decide +kernel
theorem dX2_sortOfDigits_70 : decode cX2_sortOfDigits 70 = .ok (.ireturn, 1) := by decide +kernel
theorem dX3_init_0 : decode cX3_init 0 = .ok (.aload_n 0, 1) := by decide +kernel
theorem dX3_init_1 : decode cX3_init 1 = .ok (.invokespecial 3, 3) := by decide +kernel
theorem dX3_init_4 : decode cX3_init 4 = .ok (.aload_n 0, 1) := by decide +kernel
theorem dX3_init_5 : decode cX3_init 5 = .ok (.sipush 300, 3) := by decide +kernel
theorem dX3_init_8 : decode cX3_init 8 = .ok (.newarray .int, 2) := by decide +kernel
theorem dX3_init_10 : decode cX3_init 10 = .ok (.putfield 9, 3) := by decide +kernel
theorem dX3_init_13 : decode cX3_init 13 = .ok (.aload_n 0, 1) := by decide +kernel
theorem dX3_init_14 : decode cX3_init 14 = .ok (.iconst 0, 1) := by decide +kernel
theorem dX3_init_15 : decode cX3_init 15 = .ok (.putfield 15, 3) := by decide +kernel
theorem dX3_init_18 : decode cX3_init 18 = .ok (.return_, 1) := by decide +kernel
theorem dX3_add_0 : decode cX3_add 0 = .ok (.aload_n 0, 1) := by decide +kernel
theorem dX3_add_1 : decode cX3_add 1 = .ok (.getfield 15, 3) := by decide +kernel
theorem dX3_add_4 : decode cX3_add 4 = .ok (.sipush 300, 3) := by decide +kernel
theorem dX3_add_7 : decode cX3_add 7 = .ok (.if_icmp .ge 25, 3) := by decide +kernel
theorem dX3_add_10 : decode cX3_add 10 = .ok (.aload_n 0, 1) := by decide +kernel
theorem dX3_add_11 : decode cX3_add 11 = .ok (.getfield 9, 3) := by decide +kernel
theorem dX3_add_14 : decode cX3_add 14 = .ok (.aload_n 0, 1) := by decide +kernel
theorem dX3_add_15 : decode cX3_add 15 = .ok (.getfield 15, 3) := by decide +kernel
theorem dX3_add_18 : decode cX3_add 18 = .ok (.iload_n 1, 1) := by decide +kernel
theorem dX3_add_19 : decode cX3_add 19 = .ok (.invokestatic 19, 3) := by decide +kernel
theorem dX3_add_22 : decode cX3_add 22 = .ok (.aload_n 0, 1) := by decide +kernel
theorem dX3_add_23 : decode cX3_add 23 = .ok (.dup, 1) := by decide +kernel
theorem dX3_add_24 : decode cX3_add 24 = .ok (.getfield 15, 3) := by decide +kernel
theorem dX3_add_27 : decode cX3_add 27 = .ok (.iconst 1, 1) := by decide +kernel
theorem dX3_add_28 : decode cX3_add 28 = .ok (.iadd, 1) := by decide +kernel
theorem dX3_add_29 : decode cX3_add 29 = .ok (.putfield 15, 3) := by decide +kernel
theorem dX3_add_32 : decode cX3_add 32 = .ok (.return_, 1) := by decide +kernel
theorem dX3_empty_0 : decode cX3_empty 0 = .ok (.aload_n 0, 1) := by decide +kernel
theorem dX3_empty_1 : decode cX3_empty 1 = .ok (.getfield 15, 3) := by decide +kernel
theorem dX3_empty_4 : decode cX3_empty 4 = .ok (.istore_n 1, 1) := by decide +kernel
theorem dX3_empty_5 : decode cX3_empty 5 = .ok (.aload_n 0, 1) := by decide +kernel
theorem dX3_empty_6 : decode cX3_empty 6 = .ok (.iconst 0, 1) := by decide +kernel
theorem dX3_empty_7 : decode cX3_empty 7 = .ok (.putfield 15, 3) := by decide +kernel
theorem dX3_empty_10 : decode cX3_empty 10 = .ok (.iload_n 1, 1) := by decide +kernel
theorem dX3_empty_11 : decode cX3_empty 11 = .ok (.ireturn, 1) := by decide +kernel
theorem dX3_byteAt_0 : decode cX3_byteAt 0 = .ok (.iload_n 1, 1) := by decide +kernel
theorem dX3_byteAt_1 : decode cX3_byteAt 1 = .ok (.ifCond .lt 29, 3) := by decide +kernel
theorem dX3_byteAt_4 : decode cX3_byteAt 4 = .ok (.iload_n 1, 1) := by decide +kernel
theorem dX3_byteAt_5 : decode cX3_byteAt 5 = .ok (.aload_n 0, 1) := by decide +kernel
theorem dX3_byteAt_6 : decode cX3_byteAt 6 = .ok (.getfield 15, 3) := by decide +kernel
theorem dX3_byteAt_9 : decode cX3_byteAt 9 = .ok (.if_icmp .ge 21, 3) := by decide +kernel
theorem dX3_byteAt_12 : decode cX3_byteAt 12 = .ok (.iload_n 1, 1) := by decide +kernel
theorem dX3_byteAt_13 : decode cX3_byteAt 13 = .ok (.aload_n 0, 1) := by decide +kernel
theorem dX3_byteAt_14 : decode cX3_byteAt 14 = .ok (.getfield 9, 3) := by decide +kernel
theorem dX3_byteAt_17 : decode cX3_byteAt 17 = .ok (.arraylength, 1) := by decide +kernel
theorem dX3_byteAt_18 : decode cX3_byteAt 18 = .ok (.if_icmp .ge 12, 3) := by decide +kernel
theorem dX3_byteAt_21 : decode cX3_byteAt 21 = .ok (.aload_n 0, 1) := by decide +kernel
theorem dX3_byteAt_22 : decode cX3_byteAt 22 = .ok (.getfield 9, 3) := by decide +kernel
theorem dX3_byteAt_25 : decode cX3_byteAt 25 = .ok (.iload_n 1, 1) := by decide +kernel
theorem dX3_byteAt_26 : decode cX3_byteAt 26 = .ok (.iaload, 1) := by decide +kernel
theorem dX3_byteAt_27 : decode cX3_byteAt 27 = .ok (.goto 4, 3) := by decide +kernel
theorem dX3_byteAt_30 : decode cX3_byteAt 30 = .ok (.iconst (-1), 1) := by decide +kernel
theorem dX3_byteAt_31 : decode cX3_byteAt 31 = .ok (.ireturn, 1) := by decide +kernel
theorem dX3_behindRun_0 : decode cX3_behindRun 0 = .ok (.iload_n 1, 1) := by decide +kernel
theorem dX3_behindRun_1 : decode cX3_behindRun 1 = .ok (.istore 4, 2) := by decide +kernel
theorem dX3_behindRun_3 : decode cX3_behindRun 3 = .ok (.iload 4, 2) := by decide +kernel
theorem dX3_behindRun_5 : decode cX3_behindRun 5 = .ok (.aload_n 0, 1) := by decide +kernel
theorem dX3_behindRun_6 : decode cX3_behindRun 6 = .ok (.getfield 15, 3) := by decide +kernel
theorem dX3_behindRun_9 : decode cX3_behindRun 9 = .ok (.if_icmp .ge 29, 3) := by decide +kernel
theorem dX3_behindRun_12 : decode cX3_behindRun 12 = .ok (.aload_n 0, 1) := by decide +kernel
theorem dX3_behindRun_13 : decode cX3_behindRun 13 = .ok (.iload 4, 2) := by decide +kernel
theorem dX3_behindRun_15 : decode cX3_behindRun 15 = .ok (.invokevirtual 23, 3) := by decide +kernel
theorem dX3_behindRun_18 : decode cX3_behindRun 18 = .ok (.iload_n 2, 1) := by decide +kernel
theorem dX3_behindRun_19 : decode cX3_behindRun 19 = .ok (.if_icmp .lt 19, 3) := by decide +kernel
theorem dX3_behindRun_22 : decode cX3_behindRun 22 = .ok (.aload_n 0, 1) := by decide +kernel
theorem dX3_behindRun_23 : decode cX3_behindRun 23 = .ok (.iload 4, 2) := by decide +kernel
theorem dX3_behindRun_25 : decode cX3_behindRun 25 = .ok (.invokevirtual 23, 3) := by decide +kernel
theorem dX3_behindRun_28 : decode cX3_behindRun 28 = .ok (.iload_n 3, 1) := by decide +kernel
theorem dX3_behindRun_29 : decode cX3_behindRun 29 = .ok (.if_icmp .gt 9, 3) := by decide +kernel
theorem dX3_behindRun_32 : decode cX3_behindRun 32 = .ok (.iinc 4 1, 3) := by decide +kernel
theorem dX3_behindRun_35 : decode cX3_behindRun 35 = .ok (.goto (-32), 3) := by decide +kernel
theorem dX3_behindRun_38 : decode cX3_behindRun 38 = .ok (.iload 4, 2) := by decide +kernel
theorem dX3_behindRun_40 : decode cX3_behindRun 40 = .ok (.ireturn, 1) := by decide +kernel
theorem dX4_init_0 : decode cX4_init 0 = .ok (.aload_n 0, 1) := by decide +kernel
theorem dX4_init_1 : decode cX4_init 1 = .ok (.invokespecial 3, 3) := by decide +kernel
theorem dX4_init_4 : decode cX4_init 4 = .ok (.aload_n 0, 1) := by decide +kernel
theorem dX4_init_5 : decode cX4_init 5 = .ok (.iconst 4, 1) := by decide +kernel
theorem dX4_init_6 : decode cX4_init 6 = .ok (.newarray .int, 2) := by decide +kernel
theorem dX4_init_8 : decode cX4_init 8 = .ok (.putfield 9, 3) := by decide +kernel
theorem dX4_init_11 : decode cX4_init 11 = .ok (.aload_n 0, 1) := by decide +kernel
theorem dX4_init_12 : decode cX4_init 12 = .ok (.iconst 4, 1) := by decide +kernel
theorem dX4_init_13 : decode cX4_init 13 = .ok (.newarray .int, 2) := by decide +kernel
theorem dX4_init_15 : decode cX4_init 15 = .ok (.putfield 15, 3) := by decide +kernel
theorem dX4_init_18 : decode cX4_init 18 = .ok (.return_, 1) := by decide +kernel
theorem dX4_empty_0 : decode cX4_empty 0 = .ok (.aload_n 0, 1) := by decide +kernel
theorem dX4_empty_1 : decode cX4_empty 1 = .ok (.iconst 0, 1) := by decide +kernel
theorem dX4_empty_2 : decode cX4_empty 2 = .ok (.putfield 18, 3) := by decide +kernel
theorem dX4_empty_5 : decode cX4_empty 5 = .ok (.aload_n 0, 1) := by decide +kernel
theorem dX4_empty_6 : decode cX4_empty 6 = .ok (.iconst 0, 1) := by decide +kernel
theorem dX4_empty_7 : decode cX4_empty 7 = .ok (.putfield 22, 3) := by decide +kernel
theorem dX4_empty_10 : decode cX4_empty 10 = .ok (.aload_n 0, 1) := by decide +kernel
theorem dX4_empty_11 : decode cX4_empty 11 = .ok (.iconst 0, 1) := by decide +kernel
theorem dX4_empty_12 : decode cX4_empty 12 = .ok (.putfield 25, 3) := by decide +kernel
theorem dX4_empty_15 : decode cX4_empty 15 = .ok (.aload_n 0, 1) := by decide +kernel
theorem dX4_empty_16 : decode cX4_empty 16 = .ok (.iconst 0, 1) := by decide +kernel
theorem dX4_empty_17 : decode cX4_empty 17 = .ok (.putfield 28, 3) := by decide +kernel
theorem dX4_empty_20 : decode cX4_empty 20 = .ok (.aload_n 0, 1) := by decide +kernel
theorem dX4_empty_21 : decode cX4_empty 21 = .ok (.iconst 0, 1) := by decide +kernel
theorem dX4_empty_22 : decode cX4_empty 22 = .ok (.putfield 31, 3) := by decide +kernel
theorem dX4_empty_25 : decode cX4_empty 25 = .ok (.aload_n 0, 1) := by decide +kernel
theorem dX4_empty_26 : decode cX4_empty 26 = .ok (.iconst 0, 1) := by decide +kernel
theorem dX4_empty_27 : decode cX4_empty 27 = .ok (.putfield 34, 3) := by decide +kernel
theorem dX4_empty_30 : decode cX4_empty 30 = .ok (.aload_n 0, 1) := by decide +kernel
theorem dX4_empty_31 : decode cX4_empty 31 = .ok (.iconst 0, 1) := by decide +kernel
theorem dX4_empty_32 : decode cX4_empty 32 = .ok (.putfield 37, 3) := by decide +kernel
theorem dX4_empty_35 : decode cX4_empty 35 = .ok (.aload_n 0, 1) := by decide +kernel
theorem dX4_empty_36 : decode cX4_empty 36 = .ok (.iconst 0, 1) := by decide +kernel
theorem dX4_empty_37 : decode cX4_empty 37 = .ok (.putfield 41, 3) := by decide +kernel
theorem dX4_empty_40 : decode cX4_empty 40 = .ok (.return_, 1) := by decide +kernel
theorem dX4_copy_0 : decode cX4_copy 0 = .ok (.aload_n 0, 1) := by decide +kernel
theorem dX4_copy_1 : decode cX4_copy 1 = .ok (.aload_n 1, 1) := by decide +kernel
theorem dX4_copy_2 : decode cX4_copy 2 = .ok (.getfield 18, 3) := by decide +kernel
theorem dX4_copy_5 : decode cX4_copy 5 = .ok (.putfield 18, 3) := by decide +kernel
theorem dX4_copy_8 : decode cX4_copy 8 = .ok (.aload_n 0, 1) := by decide +kernel
theorem dX4_copy_9 : decode cX4_copy 9 = .ok (.aload_n 1, 1) := by decide +kernel
theorem dX4_copy_10 : decode cX4_copy 10 = .ok (.getfield 22, 3) := by decide +kernel
theorem dX4_copy_13 : decode cX4_copy 13 = .ok (.putfield 22, 3) := by decide +kernel
theorem dX4_copy_16 : decode cX4_copy 16 = .ok (.aload_n 0, 1) := by decide +kernel
theorem dX4_copy_17 : decode cX4_copy 17 = .ok (.aload_n 1, 1) := by decide +kernel
theorem dX4_copy_18 : decode cX4_copy 18 = .ok (.getfield 25, 3) := by decide +kernel
theorem dX4_copy_21 : decode cX4_copy 21 = .ok (.putfield 25, 3) := by decide +kernel
theorem dX4_copy_24 : decode cX4_copy 24 = .ok (.aload_n 0, 1) := by decide +kernel
theorem dX4_copy_25 : decode cX4_copy 25 = .ok (.aload_n 1, 1) := by decide +kernel
theorem dX4_copy_26 : decode cX4_copy 26 = .ok (.getfield 28, 3) := by decide +kernel
theorem dX4_copy_29 : decode cX4_copy 29 = .ok (.putfield 28, 3) := by decide +kernel
theorem dX4_copy_32 : decode cX4_copy 32 = .ok (.aload_n 0, 1) := by decide +kernel
theorem dX4_copy_33 : decode cX4_copy 33 = .ok (.aload_n 1, 1) := by decide +kernel
theorem dX4_copy_34 : decode cX4_copy 34 = .ok (.getfield 31, 3) := by decide +kernel
theorem dX4_copy_37 : decode cX4_copy 37 = .ok (.putfield 31, 3) := by decide +kernel
theorem dX4_copy_40 : decode cX4_copy 40 = .ok (.aload_n 0, 1) := by decide +kernel
theorem dX4_copy_41 : decode cX4_copy 41 = .ok (.aload_n 1, 1) := by decide +kernel
theorem dX4_copy_42 : decode cX4_copy 42 = .ok (.getfield 34, 3) := by decide +kernel
theorem dX4_copy_45 : decode cX4_copy 45 = .ok (.putfield 34, 3) := by decide +kernel
theorem dX4_copy_48 : decode cX4_copy 48 = .ok (.aload_n 0, 1) := by decide +kernel
theorem dX4_copy_49 : decode cX4_copy 49 = .ok (.aload_n 1, 1) := by decide +kernel
theorem dX4_copy_50 : decode cX4_copy 50 = .ok (.getfield 37, 3) := by decide +kernel
theorem dX4_copy_53 : decode cX4_copy 53 = .ok (.putfield 37, 3) := by decide +kernel
theorem dX4_copy_56 : decode cX4_copy 56 = .ok (.aload_n 0, 1) := by decide +kernel
theorem dX4_copy_57 : decode cX4_copy 57 = .ok (.aload_n 1, 1) := by decide +kernel
theorem dX4_copy_58 : decode cX4_copy 58 = .ok (.getfield 41, 3) := by decide +kernel
theorem dX4_copy_61 : decode cX4_copy 61 = .ok (.putfield 41, 3) := by decide +kernel
theorem dX4_copy_64 : decode cX4_copy 64 = .ok (.aload_n 1, 1) := by decide +kernel
theorem dX4_copy_65 : decode cX4_copy 65 = .ok (.getfield 9, 3) := by decide +kernel
theorem dX4_copy_68 : decode cX4_copy 68 = .ok (.aload_n 0, 1) := by decide +kernel
theorem dX4_copy_69 : decode cX4_copy 69 = .ok (.getfield 9, 3) := by decide +kernel
theorem dX4_copy_72 : decode cX4_copy 72 = .ok (.invokestatic 44, 3) := by decide +kernel
theorem dX4_copy_75 : decode cX4_copy 75 = .ok (.aload_n 1, 1) := by decide +kernel
theorem dX4_copy_76 : decode cX4_copy 76 = .ok (.getfield 15, 3) := by decide +kernel
theorem dX4_copy_79 : decode cX4_copy 79 = .ok (.aload_n 0, 1) := by decide +kernel
theorem dX4_copy_80 : decode cX4_copy 80 = .ok (.getfield 15, 3) := by decide +kernel
theorem dX4_copy_83 : decode cX4_copy 83 = .ok (.invokestatic 44, 3) := by decide +kernel
theorem dX4_copy_86 : decode cX4_copy 86 = .ok (.return_, 1) := by decide +kernel
theorem dX4_takesRow_0 : decode cX4_takesRow 0 = .ok (.aload_n 0, 1) := by decide +kernel
theorem dX4_takesRow_1 : decode cX4_takesRow 1 = .ok (.getfield 22, 3) := by decide +kernel
theorem dX4_takesRow_4 : decode cX4_takesRow 4 = .ok (.iconst 4, 1) := by decide +kernel
theorem dX4_takesRow_5 : decode cX4_takesRow 5 = .ok (.if_icmp .ge 14, 3) := by decide +kernel
theorem dX4_takesRow_8 : decode cX4_takesRow 8 = .ok (.aload_n 0, 1) := by decide +kernel
theorem dX4_takesRow_9 : decode cX4_takesRow 9 = .ok (.getfield 41, 3) := by decide +kernel
theorem dX4_takesRow_12 : decode cX4_takesRow 12 = .ok (.ifCond .ne 7, 3) := by decide +kernel
theorem dX4_takesRow_15 : decode cX4_takesRow 15 = .ok (.iconst 1, 1) := by decide +kernel
theorem dX4_takesRow_16 : decode cX4_takesRow 16 = .ok (.goto 4, 3) := by decide +kernel
theorem dX4_takesRow_19 : decode cX4_takesRow 19 = .ok (.iconst 0, 1) := by decide +kernel
theorem dX4_takesRow_20 : decode cX4_takesRow 20 = .ok (.ireturn, 1) := by decide +kernel
theorem dX4_beginRow_0 : decode cX4_beginRow 0 = .ok (.aload_n 0, 1) := by decide +kernel
theorem dX4_beginRow_1 : decode cX4_beginRow 1 = .ok (.getfield 22, 3) := by decide +kernel
theorem dX4_beginRow_4 : decode cX4_beginRow 4 = .ok (.ifCond .ne 12, 3) := by decide +kernel
theorem dX4_beginRow_7 : decode cX4_beginRow 7 = .ok (.iload_n 1, 1) := by decide +kernel
theorem dX4_beginRow_8 : decode cX4_beginRow 8 = .ok (.bipush 6, 2) := by decide +kernel
theorem dX4_beginRow_10 : decode cX4_beginRow 10 = .ok (.if_icmp .le 16, 3) := by decide +kernel
theorem dX4_beginRow_13 : decode cX4_beginRow 13 = .ok (.goto 11, 3) := by decide +kernel
theorem dX4_beginRow_16 : decode cX4_beginRow 16 = .ok (.iload_n 1, 1) := by decide +kernel
theorem dX4_beginRow_17 : decode cX4_beginRow 17 = .ok (.aload_n 0, 1) := by decide +kernel
theorem dX4_beginRow_18 : decode cX4_beginRow 18 = .ok (.getfield 18, 3) := by decide +kernel
theorem dX4_beginRow_21 : decode cX4_beginRow 21 = .ok (.if_icmp .eq 5, 3) := by decide +kernel
theorem dX4_beginRow_24 : decode cX4_beginRow 24 = .ok (.iconst 0, 1) := by decide +kernel
theorem dX4_beginRow_25 : decode cX4_beginRow 25 = .ok (.ireturn, 1) := by decide +kernel
theorem dX4_beginRow_26 : decode cX4_beginRow 26 = .ok (.aload_n 0, 1) := by decide +kernel
theorem dX4_beginRow_27 : decode cX4_beginRow 27 = .ok (.iload_n 1, 1) := by decide +kernel
theorem dX4_beginRow_28 : decode cX4_beginRow 28 = .ok (.putfield 18, 3) := by decide +kernel
theorem dX4_beginRow_31 : decode cX4_beginRow 31 = .ok (.aload_n 0, 1) := by decide +kernel
theorem dX4_beginRow_32 : decode cX4_beginRow 32 = .ok (.dup, 1) := by decide +kernel
theorem dX4_beginRow_33 : decode cX4_beginRow 33 = .ok (.getfield 22, 3) := by decide +kernel
theorem dX4_beginRow_36 : decode cX4_beginRow 36 = .ok (.iconst 1, 1) := by decide +kernel
theorem dX4_beginRow_37 : decode cX4_beginRow 37 = .ok (.iadd, 1) := by decide +kernel
theorem dX4_beginRow_38 : decode cX4_beginRow 38 = .ok (.putfield 22, 3) := by decide +kernel
theorem dX4_beginRow_41 : decode cX4_beginRow 41 = .ok (.iconst 1, 1) := by decide +kernel
theorem dX4_beginRow_42 : decode cX4_beginRow 42 = .ok (.ireturn, 1) := by decide +kernel
theorem dX4_addCell_0 : decode cX4_addCell 0 = .ok (.iload_n 1, 1) := by decide +kernel
theorem dX4_addCell_1 : decode cX4_addCell 1 = .ok (.bipush 104, 2) := by decide +kernel
theorem dX4_addCell_3 : decode cX4_addCell 3 = .ok (.if_icmp .eq 17, 3) := by decide +kernel
theorem dX4_addCell_6 : decode cX4_addCell 6 = .ok (.iload_n 1, 1) := by decide +kernel
theorem dX4_addCell_7 : decode cX4_addCell 7 = .ok (.bipush 98, 2) := by decide +kernel
theorem dX4_addCell_9 : decode cX4_addCell 9 = .ok (.if_icmp .eq 11, 3) := by decide +kernel
theorem dX4_addCell_12 : decode cX4_addCell 12 = .ok (.iload_n 1, 1) := by decide +kernel
theorem dX4_addCell_13 : decode cX4_addCell 13 = .ok (.bipush 115, 2) := by decide +kernel
theorem dX4_addCell_15 : decode cX4_addCell 15 = .ok (.if_icmp .eq 5, 3) := by decide +kernel
theorem dX4_addCell_18 : decode cX4_addCell 18 = .ok (.iconst 0, 1) := by decide +kernel
theorem dX4_addCell_19 : decode cX4_addCell 19 = .ok (.ireturn, 1) := by decide +kernel
theorem dX4_addCell_20 : decode cX4_addCell 20 = .ok (.iload_n 1, 1) := by decide +kernel
theorem dX4_addCell_21 : decode cX4_addCell 21 = .ok (.bipush 98, 2) := by decide +kernel
theorem dX4_addCell_23 : decode cX4_addCell 23 = .ok (.if_icmp .ne 18, 3) := by decide +kernel
theorem dX4_addCell_26 : decode cX4_addCell 26 = .ok (.aload_n 0, 1) := by decide +kernel
theorem dX4_addCell_27 : decode cX4_addCell 27 = .ok (.dup, 1) := by decide +kernel
theorem dX4_addCell_28 : decode cX4_addCell 28 = .ok (.getfield 28, 3) := by decide +kernel
theorem dX4_addCell_31 : decode cX4_addCell 31 = .ok (.iconst 1, 1) := by decide +kernel
theorem dX4_addCell_32 : decode cX4_addCell 32 = .ok (.aload_n 0, 1) := by decide +kernel
theorem dX4_addCell_33 : decode cX4_addCell 33 = .ok (.getfield 25, 3) := by decide +kernel
theorem dX4_addCell_36 : decode cX4_addCell 36 = .ok (.ishl, 1) := by decide +kernel
theorem dX4_addCell_37 : decode cX4_addCell 37 = .ok (.ior, 1) := by decide +kernel
theorem dX4_addCell_38 : decode cX4_addCell 38 = .ok (.putfield 28, 3) := by decide +kernel
theorem dX4_addCell_41 : decode cX4_addCell 41 = .ok (.iload_n 1, 1) := by decide +kernel
theorem dX4_addCell_42 : decode cX4_addCell 42 = .ok (.bipush 115, 2) := by decide +kernel
theorem dX4_addCell_44 : decode cX4_addCell 44 = .ok (.if_icmp .ne 18, 3) := by decide +kernel
theorem dX4_addCell_47 : decode cX4_addCell 47 = .ok (.aload_n 0, 1) := by decide +kernel
theorem dX4_addCell_48 : decode cX4_addCell 48 = .ok (.dup, 1) := by decide +kernel
theorem dX4_addCell_49 : decode cX4_addCell 49 = .ok (.getfield 31, 3) := by decide +kernel
theorem dX4_addCell_52 : decode cX4_addCell 52 = .ok (.iconst 1, 1) := by decide +kernel
theorem dX4_addCell_53 : decode cX4_addCell 53 = .ok (.aload_n 0, 1) := by decide +kernel
theorem dX4_addCell_54 : decode cX4_addCell 54 = .ok (.getfield 25, 3) := by decide +kernel
theorem dX4_addCell_57 : decode cX4_addCell 57 = .ok (.ishl, 1) := by decide +kernel
theorem dX4_addCell_58 : decode cX4_addCell 58 = .ok (.ior, 1) := by decide +kernel
theorem dX4_addCell_59 : decode cX4_addCell 59 = .ok (.putfield 31, 3) := by decide +kernel
theorem dX4_addCell_62 : decode cX4_addCell 62 = .ok (.aload_n 0, 1) := by decide +kernel
theorem dX4_addCell_63 : decode cX4_addCell 63 = .ok (.dup, 1) := by decide +kernel
theorem dX4_addCell_64 : decode cX4_addCell 64 = .ok (.getfield 25, 3) := by decide +kernel
theorem dX4_addCell_67 : decode cX4_addCell 67 = .ok (.iconst 1, 1) := by decide +kernel
theorem dX4_addCell_68 : decode cX4_addCell 68 = .ok (.iadd, 1) := by decide +kernel
theorem dX4_addCell_69 : decode cX4_addCell 69 = .ok (.putfield 25, 3) := by decide +kernel
theorem dX4_addCell_72 : decode cX4_addCell 72 = .ok (.iconst 1, 1) := by decide +kernel
theorem dX4_addCell_73 : decode cX4_addCell 73 = .ok (.ireturn, 1) := by decide +kernel
theorem dX4_addWalker_0 : decode cX4_addWalker 0 = .ok (.aload_n 0, 1) := by decide +kernel
theorem dX4_addWalker_1 : decode cX4_addWalker 1 = .ok (.getfield 9, 3) := by decide +kernel
theorem dX4_addWalker_4 : decode cX4_addWalker 4 = .ok (.aload_n 0, 1) := by decide +kernel
theorem dX4_addWalker_5 : decode cX4_addWalker 5 = .ok (.getfield 41, 3) := by decide +kernel
theorem dX4_addWalker_8 : decode cX4_addWalker 8 = .ok (.iload_n 1, 1) := by decide +kernel
theorem dX4_addWalker_9 : decode cX4_addWalker 9 = .ok (.invokestatic 48, 3) := by decide +kernel
theorem dX4_addWalker_12 : decode cX4_addWalker 12 = .ok (.aload_n 0, 1) := by decide +kernel
theorem dX4_addWalker_13 : decode cX4_addWalker 13 = .ok (.getfield 15, 3) := by decide +kernel
theorem dX4_addWalker_16 : decode cX4_addWalker 16 = .ok (.aload_n 0, 1) := by decide +kernel
theorem dX4_addWalker_17 : decode cX4_addWalker 17 = .ok (.getfield 41, 3) := by decide +kernel
theorem dX4_addWalker_20 : decode cX4_addWalker 20 = .ok (.iload_n 2, 1) := by decide +kernel
theorem dX4_addWalker_21 : decode cX4_addWalker 21 = .ok (.invokestatic 48, 3) := by decide +kernel
theorem dX4_addWalker_24 : decode cX4_addWalker 24 = .ok (.aload_n 0, 1) := by decide +kernel
theorem dX4_addWalker_25 : decode cX4_addWalker 25 = .ok (.dup, 1) := by decide +kernel
theorem dX4_addWalker_26 : decode cX4_addWalker 26 = .ok (.getfield 41, 3) := by decide +kernel
theorem dX4_addWalker_29 : decode cX4_addWalker 29 = .ok (.iconst 1, 1) := by decide +kernel
theorem dX4_addWalker_30 : decode cX4_addWalker 30 = .ok (.iadd, 1) := by decide +kernel
theorem dX4_addWalker_31 : decode cX4_addWalker 31 = .ok (.putfield 41, 3) := by decide +kernel
theorem dX4_addWalker_34 : decode cX4_addWalker 34 = .ok (.return_, 1) := by decide +kernel
theorem dX5_init_0 : decode cX5_init 0 = .ok (.aload_n 0, 1) := by decide +kernel
theorem dX5_init_1 : decode cX5_init 1 = .ok (.invokespecial 3, 3) := by decide +kernel
theorem dX5_init_4 : decode cX5_init 4 = .ok (.return_, 1) := by decide +kernel
theorem dX5_measure_0 : decode cX5_measure 0 = .ok (.aload_n 0, 1) := by decide +kernel
theorem dX5_measure_1 : decode cX5_measure 1 = .ok (.iload_n 1, 1) := by decide +kernel
theorem dX5_measure_2 : decode cX5_measure 2 = .ok (.putfield 9, 3) := by decide +kernel
theorem dX5_measure_5 : decode cX5_measure 5 = .ok (.aload_n 0, 1) := by decide +kernel
theorem dX5_measure_6 : decode cX5_measure 6 = .ok (.iconst 1, 1) := by decide +kernel
theorem dX5_measure_7 : decode cX5_measure 7 = .ok (.iload_n 1, 1) := by decide +kernel
theorem dX5_measure_8 : decode cX5_measure 8 = .ok (.iload_n 2, 1) := by decide +kernel
theorem dX5_measure_9 : decode cX5_measure 9 = .ok (.imul, 1) := by decide +kernel
theorem dX5_measure_10 : decode cX5_measure 10 = .ok (.ishl, 1) := by decide +kernel
theorem dX5_measure_11 : decode cX5_measure 11 = .ok (.iconst 1, 1) := by decide +kernel
theorem dX5_measure_12 : decode cX5_measure 12 = .ok (.isub, 1) := by decide +kernel
theorem dX5_measure_13 : decode cX5_measure 13 = .ok (.putfield 15, 3) := by decide +kernel
theorem dX5_measure_16 : decode cX5_measure 16 = .ok (.aload_n 0, 1) := by decide +kernel
theorem dX5_measure_17 : decode cX5_measure 17 = .ok (.iconst 0, 1) := by decide +kernel
theorem dX5_measure_18 : decode cX5_measure 18 = .ok (.putfield 18, 3) := by decide +kernel
theorem dX5_measure_21 : decode cX5_measure 21 = .ok (.aload_n 0, 1) := by decide +kernel
theorem dX5_measure_22 : decode cX5_measure 22 = .ok (.iconst 0, 1) := by decide +kernel
theorem dX5_measure_23 : decode cX5_measure 23 = .ok (.putfield 21, 3) := by decide +kernel
theorem dX5_measure_26 : decode cX5_measure 26 = .ok (.iconst 0, 1) := by decide +kernel
theorem dX5_measure_27 : decode cX5_measure 27 = .ok (.istore_n 3, 1) := by decide +kernel
theorem dX5_measure_28 : decode cX5_measure 28 = .ok (.iload_n 3, 1) := by decide +kernel
theorem dX5_measure_29 : decode cX5_measure 29 = .ok (.iload_n 2, 1) := by decide +kernel
theorem dX5_measure_30 : decode cX5_measure 30 = .ok (.if_icmp .ge 41, 3) := by decide +kernel
theorem dX5_measure_33 : decode cX5_measure 33 = .ok (.aload_n 0, 1) := by decide +kernel
theorem dX5_measure_34 : decode cX5_measure 34 = .ok (.dup, 1) := by decide +kernel
theorem dX5_measure_35 : decode cX5_measure 35 = .ok (.getfield 18, 3) := by decide +kernel
theorem dX5_measure_38 : decode cX5_measure 38 = .ok (.iconst 1, 1) := by decide +kernel
theorem dX5_measure_39 : decode cX5_measure 39 = .ok (.iload_n 3, 1) := by decide +kernel
theorem dX5_measure_40 : decode cX5_measure 40 = .ok (.iload_n 1, 1) := by decide +kernel
theorem dX5_measure_41 : decode cX5_measure 41 = .ok (.imul, 1) := by decide +kernel
theorem dX5_measure_42 : decode cX5_measure 42 = .ok (.ishl, 1) := by decide +kernel
theorem dX5_measure_43 : decode cX5_measure 43 = .ok (.ior, 1) := by decide +kernel
theorem dX5_measure_44 : decode cX5_measure 44 = .ok (.putfield 18, 3) := by decide +kernel
theorem dX5_measure_47 : decode cX5_measure 47 = .ok (.aload_n 0, 1) := by decide +kernel
theorem dX5_measure_48 : decode cX5_measure 48 = .ok (.dup, 1) := by decide +kernel
theorem dX5_measure_49 : decode cX5_measure 49 = .ok (.getfield 21, 3) := by decide +kernel
theorem dX5_measure_52 : decode cX5_measure 52 = .ok (.iconst 1, 1) := by decide +kernel
theorem dX5_measure_53 : decode cX5_measure 53 = .ok (.iload_n 3, 1) := by decide +kernel
theorem dX5_measure_54 : decode cX5_measure 54 = .ok (.iload_n 1, 1) := by decide +kernel
theorem dX5_measure_55 : decode cX5_measure 55 = .ok (.imul, 1) := by decide +kernel
theorem dX5_measure_56 : decode cX5_measure 56 = .ok (.iload_n 1, 1) := by decide +kernel
theorem dX5_measure_57 : decode cX5_measure 57 = .ok (.iadd, 1) := by decide +kernel
theorem dX5_measure_58 : decode cX5_measure 58 = .ok (.iconst 1, 1) := by decide +kernel
theorem dX5_measure_59 : decode cX5_measure 59 = .ok (.isub, 1) := by decide +kernel
theorem dX5_measure_60 : decode cX5_measure 60 = .ok (.ishl, 1) := by decide +kernel
theorem dX5_measure_61 : decode cX5_measure 61 = .ok (.ior, 1) := by decide +kernel
theorem dX5_measure_62 : decode cX5_measure 62 = .ok (.putfield 21, 3) := by decide +kernel
theorem dX5_measure_65 : decode cX5_measure 65 = .ok (.iinc 3 1, 3) := by decide +kernel
theorem dX5_measure_68 : decode cX5_measure 68 = .ok (.goto (-40), 3) := by decide +kernel
theorem dX5_measure_71 : decode cX5_measure 71 = .ok (.return_, 1) := by decide +kernel
theorem dX5_near_0 : decode cX5_near 0 = .ok (.iload_n 1, 1) := by decide +kernel
theorem dX5_near_1 : decode cX5_near 1 = .ok (.aload_n 0, 1) := by decide +kernel
theorem dX5_near_2 : decode cX5_near 2 = .ok (.getfield 21, 3) := by decide +kernel
theorem dX5_near_5 : decode cX5_near 5 = .ok (.iconst (-1), 1) := by decide +kernel
theorem dX5_near_6 : decode cX5_near 6 = .ok (.ixor, 1) := by decide +kernel
theorem dX5_near_7 : decode cX5_near 7 = .ok (.iand, 1) := by decide +kernel
theorem dX5_near_8 : decode cX5_near 8 = .ok (.iconst 1, 1) := by decide +kernel
theorem dX5_near_9 : decode cX5_near 9 = .ok (.ishl, 1) := by decide +kernel
theorem dX5_near_10 : decode cX5_near 10 = .ok (.istore_n 2, 1) := by decide +kernel
theorem dX5_near_11 : decode cX5_near 11 = .ok (.iload_n 1, 1) := by decide +kernel
theorem dX5_near_12 : decode cX5_near 12 = .ok (.aload_n 0, 1) := by decide +kernel
theorem dX5_near_13 : decode cX5_near 13 = .ok (.getfield 18, 3) := by decide +kernel
theorem dX5_near_16 : decode cX5_near 16 = .ok (.iconst (-1), 1) := by decide +kernel
theorem dX5_near_17 : decode cX5_near 17 = .ok (.ixor, 1) := by decide +kernel
theorem dX5_near_18 : decode cX5_near 18 = .ok (.iand, 1) := by decide +kernel
theorem dX5_near_19 : decode cX5_near 19 = .ok (.iconst 1, 1) := by decide +kernel
theorem dX5_near_20 : decode cX5_near 20 = .ok (.iushr, 1) := by decide +kernel
theorem dX5_near_21 : decode cX5_near 21 = .ok (.istore_n 3, 1) := by decide +kernel
theorem dX5_near_22 : decode cX5_near 22 = .ok (.iload_n 1, 1) := by decide +kernel
theorem dX5_near_23 : decode cX5_near 23 = .ok (.aload_n 0, 1) := by decide +kernel
theorem dX5_near_24 : decode cX5_near 24 = .ok (.getfield 9, 3) := by decide +kernel
theorem dX5_near_27 : decode cX5_near 27 = .ok (.ishl, 1) := by decide +kernel
theorem dX5_near_28 : decode cX5_near 28 = .ok (.aload_n 0, 1) := by decide +kernel
theorem dX5_near_29 : decode cX5_near 29 = .ok (.getfield 15, 3) := by decide +kernel
theorem dX5_near_32 : decode cX5_near 32 = .ok (.iand, 1) := by decide +kernel
theorem dX5_near_33 : decode cX5_near 33 = .ok (.istore 4, 2) := by decide +kernel
theorem dX5_near_35 : decode cX5_near 35 = .ok (.iload_n 1, 1) := by decide +kernel
theorem dX5_near_36 : decode cX5_near 36 = .ok (.aload_n 0, 1) := by decide +kernel
theorem dX5_near_37 : decode cX5_near 37 = .ok (.getfield 9, 3) := by decide +kernel
theorem dX5_near_40 : decode cX5_near 40 = .ok (.iushr, 1) := by decide +kernel
theorem dX5_near_41 : decode cX5_near 41 = .ok (.istore 5, 2) := by decide +kernel
theorem dX5_near_43 : decode cX5_near 43 = .ok (.iload_n 2, 1) := by decide +kernel
theorem dX5_near_44 : decode cX5_near 44 = .ok (.iload_n 3, 1) := by decide +kernel
theorem dX5_near_45 : decode cX5_near 45 = .ok (.ior, 1) := by decide +kernel
theorem dX5_near_46 : decode cX5_near 46 = .ok (.iload 4, 2) := by decide +kernel
theorem dX5_near_48 : decode cX5_near 48 = .ok (.ior, 1) := by decide +kernel
theorem dX5_near_49 : decode cX5_near 49 = .ok (.iload 5, 2) := by decide +kernel
theorem dX5_near_51 : decode cX5_near 51 = .ok (.ior, 1) := by decide +kernel
theorem dX5_near_52 : decode cX5_near 52 = .ok (.istore 6, 2) := by decide +kernel
theorem dX5_near_54 : decode cX5_near 54 = .ok (.iload_n 2, 1) := by decide +kernel
theorem dX5_near_55 : decode cX5_near 55 = .ok (.aload_n 0, 1) := by decide +kernel
theorem dX5_near_56 : decode cX5_near 56 = .ok (.getfield 21, 3) := by decide +kernel
theorem dX5_near_59 : decode cX5_near 59 = .ok (.iconst (-1), 1) := by decide +kernel
theorem dX5_near_60 : decode cX5_near 60 = .ok (.ixor, 1) := by decide +kernel
theorem dX5_near_61 : decode cX5_near 61 = .ok (.iand, 1) := by decide +kernel
theorem dX5_near_62 : decode cX5_near 62 = .ok (.iconst 1, 1) := by decide +kernel
theorem dX5_near_63 : decode cX5_near 63 = .ok (.ishl, 1) := by decide +kernel
theorem dX5_near_64 : decode cX5_near 64 = .ok (.iload_n 3, 1) := by decide +kernel
theorem dX5_near_65 : decode cX5_near 65 = .ok (.aload_n 0, 1) := by decide +kernel
theorem dX5_near_66 : decode cX5_near 66 = .ok (.getfield 18, 3) := by decide +kernel
theorem dX5_near_69 : decode cX5_near 69 = .ok (.iconst (-1), 1) := by decide +kernel
theorem dX5_near_70 : decode cX5_near 70 = .ok (.ixor, 1) := by decide +kernel
theorem dX5_near_71 : decode cX5_near 71 = .ok (.iand, 1) := by decide +kernel
theorem dX5_near_72 : decode cX5_near 72 = .ok (.iconst 1, 1) := by decide +kernel
theorem dX5_near_73 : decode cX5_near 73 = .ok (.iushr, 1) := by decide +kernel
theorem dX5_near_74 : decode cX5_near 74 = .ok (.ior, 1) := by decide +kernel
theorem dX5_near_75 : decode cX5_near 75 = .ok (.iload 4, 2) := by decide +kernel
theorem dX5_near_77 : decode cX5_near 77 = .ok (.aload_n 0, 1) := by decide +kernel
theorem dX5_near_78 : decode cX5_near 78 = .ok (.getfield 9, 3) := by decide +kernel
theorem dX5_near_81 : decode cX5_near 81 = .ok (.ishl, 1) := by decide +kernel
theorem dX5_near_82 : decode cX5_near 82 = .ok (.aload_n 0, 1) := by decide +kernel
theorem dX5_near_83 : decode cX5_near 83 = .ok (.getfield 15, 3) := by decide +kernel
theorem dX5_near_86 : decode cX5_near 86 = .ok (.iand, 1) := by decide +kernel
theorem dX5_near_87 : decode cX5_near 87 = .ok (.ior, 1) := by decide +kernel
theorem dX5_near_88 : decode cX5_near 88 = .ok (.iload 5, 2) := by decide +kernel
theorem dX5_near_90 : decode cX5_near 90 = .ok (.aload_n 0, 1) := by decide +kernel
theorem dX5_near_91 : decode cX5_near 91 = .ok (.getfield 9, 3) := by decide +kernel
theorem dX5_near_94 : decode cX5_near 94 = .ok (.iushr, 1) := by decide +kernel
theorem dX5_near_95 : decode cX5_near 95 = .ok (.ior, 1) := by decide +kernel
theorem dX5_near_96 : decode cX5_near 96 = .ok (.istore 7, 2) := by decide +kernel
theorem dX5_near_98 : decode cX5_near 98 = .ok (.iload 6, 2) := by decide +kernel
theorem dX5_near_100 : decode cX5_near 100 = .ok (.iload 7, 2) := by decide +kernel
theorem dX5_near_102 : decode cX5_near 102 = .ok (.ior, 1) := by decide +kernel
theorem dX5_near_103 : decode cX5_near 103 = .ok (.ireturn, 1) := by decide +kernel
theorem dX5_spread_0 : decode cX5_spread 0 = .ok (.iload_n 1, 1) := by decide +kernel
theorem dX5_spread_1 : decode cX5_spread 1 = .ok (.istore_n 3, 1) := by decide +kernel
theorem dX5_spread_2 : decode cX5_spread 2 = .ok (.iconst 0, 1) := by decide +kernel
theorem dX5_spread_3 : decode cX5_spread 3 = .ok (.istore 4, 2) := by decide +kernel
theorem dX5_spread_5 : decode cX5_spread 5 = .ok (.iload 4, 2) := by decide +kernel
theorem dX5_spread_7 : decode cX5_spread 7 = .ok (.bipush 24, 2) := by decide +kernel
theorem dX5_spread_9 : decode cX5_spread 9 = .ok (.if_icmp .ge 31, 3) := by decide +kernel
theorem dX5_spread_12 : decode cX5_spread 12 = .ok (.iload_n 3, 1) := by decide +kernel
theorem dX5_spread_13 : decode cX5_spread 13 = .ok (.aload_n 0, 1) := by decide +kernel
theorem dX5_spread_14 : decode cX5_spread 14 = .ok (.iload_n 3, 1) := by decide +kernel
theorem dX5_spread_15 : decode cX5_spread 15 = .ok (.invokevirtual 24, 3) := by decide +kernel
theorem dX5_spread_18 : decode cX5_spread 18 = .ok (.iload_n 2, 1) := by decide +kernel
theorem dX5_spread_19 : decode cX5_spread 19 = .ok (.iand, 1) := by decide +kernel
theorem dX5_spread_20 : decode cX5_spread 20 = .ok (.ior, 1) := by decide +kernel
theorem dX5_spread_21 : decode cX5_spread 21 = .ok (.istore 5, 2) := by decide +kernel
theorem dX5_spread_23 : decode cX5_spread 23 = .ok (.iload 5, 2) := by decide +kernel
theorem dX5_spread_25 : decode cX5_spread 25 = .ok (.iload_n 3, 1) := by decide +kernel
theorem dX5_spread_26 : decode cX5_spread 26 = .ok (.if_icmp .ne 5, 3) := by decide +kernel
theorem dX5_spread_29 : decode cX5_spread 29 = .ok (.iload_n 3, 1) := by decide +kernel
theorem dX5_spread_30 : decode cX5_spread 30 = .ok (.ireturn, 1) := by decide +kernel
theorem dX5_spread_31 : decode cX5_spread 31 = .ok (.iload 5, 2) := by decide +kernel
theorem dX5_spread_33 : decode cX5_spread 33 = .ok (.istore_n 3, 1) := by decide +kernel
theorem dX5_spread_34 : decode cX5_spread 34 = .ok (.iinc 4 1, 3) := by decide +kernel
theorem dX5_spread_37 : decode cX5_spread 37 = .ok (.goto (-32), 3) := by decide +kernel
theorem dX5_spread_40 : decode cX5_spread 40 = .ok (.iload_n 3, 1) := by decide +kernel
theorem dX5_spread_41 : decode cX5_spread 41 = .ok (.ireturn, 1) := by decide +kernel
theorem dX5_joins_0 : decode cX5_joins 0 = .ok (.iload_n 3, 1) := by decide +kernel
theorem dX5_joins_1 : decode cX5_joins 1 = .ok (.iload_n 1, 1) := by decide +kernel
theorem dX5_joins_2 : decode cX5_joins 2 = .ok (.invokestatic 28, 3) := by decide +kernel
theorem dX5_joins_5 : decode cX5_joins 5 = .ok (.ifCond .eq 30, 3) := by decide +kernel
theorem dX5_joins_8 : decode cX5_joins 8 = .ok (.iload_n 3, 1) := by decide +kernel
theorem dX5_joins_9 : decode cX5_joins 9 = .ok (.iload_n 2, 1) := by decide +kernel
theorem dX5_joins_10 : decode cX5_joins 10 = .ok (.invokestatic 28, 3) := by decide +kernel
theorem dX5_joins_13 : decode cX5_joins 13 = .ok (.ifCond .eq 22, 3) := by decide +kernel
theorem dX5_joins_16 : decode cX5_joins 16 = .ok (.aload_n 0, 1) := by decide +kernel
theorem dX5_joins_17 : decode cX5_joins 17 = .ok (.iconst 1, 1) := by decide +kernel
theorem dX5_joins_18 : decode cX5_joins 18 = .ok (.iload_n 1, 1) := by decide +kernel
theorem dX5_joins_19 : decode cX5_joins 19 = .ok (.ishl, 1) := by decide +kernel
theorem dX5_joins_20 : decode cX5_joins 20 = .ok (.iload_n 3, 1) := by decide +kernel
theorem dX5_joins_21 : decode cX5_joins 21 = .ok (.invokevirtual 32, 3) := by decide +kernel
theorem dX5_joins_24 : decode cX5_joins 24 = .ok (.iload_n 2, 1) := by decide +kernel
theorem dX5_joins_25 : decode cX5_joins 25 = .ok (.invokestatic 28, 3) := by decide +kernel
theorem dX5_joins_28 : decode cX5_joins 28 = .ok (.ifCond .eq 7, 3) := by decide +kernel
theorem dX5_joins_31 : decode cX5_joins 31 = .ok (.iconst 1, 1) := by decide +kernel
theorem dX5_joins_32 : decode cX5_joins 32 = .ok (.goto 4, 3) := by decide +kernel
theorem dX5_joins_35 : decode cX5_joins 35 = .ok (.iconst 0, 1) := by decide +kernel
theorem dX5_joins_36 : decode cX5_joins 36 = .ok (.ireturn, 1) := by decide +kernel
theorem dX5_fewestSteps_0 : decode cX5_fewestSteps 0 = .ok (.iload_n 3, 1) := by decide +kernel
theorem dX5_fewestSteps_1 : decode cX5_fewestSteps 1 = .ok (.iload_n 1, 1) := by decide +kernel
theorem dX5_fewestSteps_2 : decode cX5_fewestSteps 2 = .ok (.invokestatic 28, 3) := by decide +kernel
theorem dX5_fewestSteps_5 : decode cX5_fewestSteps 5 = .ok (.ifCond .eq 11, 3) := by decide +kernel
theorem dX5_fewestSteps_8 : decode cX5_fewestSteps 8 = .ok (.iload_n 3, 1) := by decide +kernel
theorem dX5_fewestSteps_9 : decode cX5_fewestSteps 9 = .ok (.iload_n 2, 1) := by decide +kernel
theorem dX5_fewestSteps_10 : decode cX5_fewestSteps 10 = .ok (.invokestatic 28, 3) := by decide +kernel
theorem dX5_fewestSteps_13 : decode cX5_fewestSteps 13 = .ok (.ifCond .ne 6, 3) := by decide +kernel
theorem dX5_fewestSteps_16 : decode cX5_fewestSteps 16 = .ok (.bipush (-9), 2) := by decide +kernel
theorem dX5_fewestSteps_18 : decode cX5_fewestSteps 18 = .ok (.ireturn, 1) := by decide +kernel
theorem dX5_fewestSteps_19 : decode cX5_fewestSteps 19 = .ok (.iconst 1, 1) := by decide +kernel
theorem dX5_fewestSteps_20 : decode cX5_fewestSteps 20 = .ok (.iload_n 1, 1) := by decide +kernel
theorem dX5_fewestSteps_21 : decode cX5_fewestSteps 21 = .ok (.ishl, 1) := by decide +kernel
theorem dX5_fewestSteps_22 : decode cX5_fewestSteps 22 = .ok (.istore 4, 2) := by decide +kernel
theorem dX5_fewestSteps_24 : decode cX5_fewestSteps 24 = .ok (.iconst 0, 1) := by decide +kernel
theorem dX5_fewestSteps_25 : decode cX5_fewestSteps 25 = .ok (.istore 5, 2) := by decide +kernel
theorem dX5_fewestSteps_27 : decode cX5_fewestSteps 27 = .ok (.iload 5, 2) := by decide +kernel
theorem dX5_fewestSteps_29 : decode cX5_fewestSteps 29 = .ok (.bipush 24, 2) := by decide +kernel
theorem dX5_fewestSteps_31 : decode cX5_fewestSteps 31 = .ok (.if_icmp .ge 48, 3) := by decide +kernel
theorem dX5_fewestSteps_34 : decode cX5_fewestSteps 34 = .ok (.iload 4, 2) := by decide +kernel
theorem dX5_fewestSteps_36 : decode cX5_fewestSteps 36 = .ok (.iload_n 2, 1) := by decide +kernel
theorem dX5_fewestSteps_37 : decode cX5_fewestSteps 37 = .ok (.invokestatic 28, 3) := by decide +kernel
theorem dX5_fewestSteps_40 : decode cX5_fewestSteps 40 = .ok (.ifCond .eq 6, 3) := by decide +kernel
theorem dX5_fewestSteps_43 : decode cX5_fewestSteps 43 = .ok (.iload 5, 2) := by decide +kernel
theorem dX5_fewestSteps_45 : decode cX5_fewestSteps 45 = .ok (.ireturn, 1) := by decide +kernel
theorem dX5_fewestSteps_46 : decode cX5_fewestSteps 46 = .ok (.iload 4, 2) := by decide +kernel
theorem dX5_fewestSteps_48 : decode cX5_fewestSteps 48 = .ok (.aload_n 0, 1) := by decide +kernel
theorem dX5_fewestSteps_49 : decode cX5_fewestSteps 49 = .ok (.iload 4, 2) := by decide +kernel
theorem dX5_fewestSteps_51 : decode cX5_fewestSteps 51 = .ok (.invokevirtual 24, 3) := by decide +kernel
theorem dX5_fewestSteps_54 : decode cX5_fewestSteps 54 = .ok (.iload_n 3, 1) := by decide +kernel
theorem dX5_fewestSteps_55 : decode cX5_fewestSteps 55 = .ok (.iand, 1) := by decide +kernel
theorem dX5_fewestSteps_56 : decode cX5_fewestSteps 56 = .ok (.ior, 1) := by decide +kernel
theorem dX5_fewestSteps_57 : decode cX5_fewestSteps 57 = .ok (.istore 6, 2) := by decide +kernel
theorem dX5_fewestSteps_59 : decode cX5_fewestSteps 59 = .ok (.iload 6, 2) := by decide +kernel
theorem dX5_fewestSteps_61 : decode cX5_fewestSteps 61 = .ok (.iload 4, 2) := by decide +kernel
theorem dX5_fewestSteps_63 : decode cX5_fewestSteps 63 = .ok (.if_icmp .ne 6, 3) := by decide +kernel
theorem dX5_fewestSteps_66 : decode cX5_fewestSteps 66 = .ok (.bipush (-9), 2) := by decide +kernel
theorem dX5_fewestSteps_68 : decode cX5_fewestSteps 68 = .ok (.ireturn, 1) := by decide +kernel
theorem dX5_fewestSteps_69 : decode cX5_fewestSteps 69 = .ok (.iload 6, 2) := by decide +kernel
theorem dX5_fewestSteps_71 : decode cX5_fewestSteps 71 = .ok (.istore 4, 2) := by decide +kernel
theorem dX5_fewestSteps_73 : decode cX5_fewestSteps 73 = .ok (.iinc 5 1, 3) := by decide +kernel
theorem dX5_fewestSteps_76 : decode cX5_fewestSteps 76 = .ok (.goto (-49), 3) := by decide +kernel
theorem dX5_fewestSteps_79 : decode cX5_fewestSteps 79 = .ok (.bipush (-9), 2) := by decide +kernel
theorem dX5_fewestSteps_81 : decode cX5_fewestSteps 81 = .ok (.ireturn, 1) := by decide +kernel
theorem dX5_nextCell_0 : decode cX5_nextCell 0 = .ok (.aload_n 0, 1) := by decide +kernel
theorem dX5_nextCell_1 : decode cX5_nextCell 1 = .ok (.iload_n 1, 1) := by decide +kernel
theorem dX5_nextCell_2 : decode cX5_nextCell 2 = .ok (.iload_n 2, 1) := by decide +kernel
theorem dX5_nextCell_3 : decode cX5_nextCell 3 = .ok (.iload_n 3, 1) := by decide +kernel
theorem dX5_nextCell_4 : decode cX5_nextCell 4 = .ok (.invokevirtual 36, 3) := by decide +kernel
theorem dX5_nextCell_7 : decode cX5_nextCell 7 = .ok (.istore 4, 2) := by decide +kernel
theorem dX5_nextCell_9 : decode cX5_nextCell 9 = .ok (.aload_n 0, 1) := by decide +kernel
theorem dX5_nextCell_10 : decode cX5_nextCell 10 = .ok (.iconst 1, 1) := by decide +kernel
theorem dX5_nextCell_11 : decode cX5_nextCell 11 = .ok (.iload_n 1, 1) := by decide +kernel
theorem dX5_nextCell_12 : decode cX5_nextCell 12 = .ok (.ishl, 1) := by decide +kernel
theorem dX5_nextCell_13 : decode cX5_nextCell 13 = .ok (.invokevirtual 24, 3) := by decide +kernel
theorem dX5_nextCell_16 : decode cX5_nextCell 16 = .ok (.iload_n 3, 1) := by decide +kernel
theorem dX5_nextCell_17 : decode cX5_nextCell 17 = .ok (.iand, 1) := by decide +kernel
theorem dX5_nextCell_18 : decode cX5_nextCell 18 = .ok (.istore 5, 2) := by decide +kernel
theorem dX5_nextCell_20 : decode cX5_nextCell 20 = .ok (.iconst 0, 1) := by decide +kernel
theorem dX5_nextCell_21 : decode cX5_nextCell 21 = .ok (.istore 6, 2) := by decide +kernel
theorem dX5_nextCell_23 : decode cX5_nextCell 23 = .ok (.iload 6, 2) := by decide +kernel
theorem dX5_nextCell_25 : decode cX5_nextCell 25 = .ok (.bipush 24, 2) := by decide +kernel
theorem dX5_nextCell_27 : decode cX5_nextCell 27 = .ok (.if_icmp .ge 37, 3) := by decide +kernel
theorem dX5_nextCell_30 : decode cX5_nextCell 30 = .ok (.iload 5, 2) := by decide +kernel
theorem dX5_nextCell_32 : decode cX5_nextCell 32 = .ok (.iload 6, 2) := by decide +kernel
theorem dX5_nextCell_34 : decode cX5_nextCell 34 = .ok (.invokestatic 28, 3) := by decide +kernel
theorem dX5_nextCell_37 : decode cX5_nextCell 37 = .ok (.ifCond .eq 21, 3) := by decide +kernel
theorem dX5_nextCell_40 : decode cX5_nextCell 40 = .ok (.aload_n 0, 1) := by decide +kernel
theorem dX5_nextCell_41 : decode cX5_nextCell 41 = .ok (.iload 6, 2) := by decide +kernel
theorem dX5_nextCell_43 : decode cX5_nextCell 43 = .ok (.iload_n 2, 1) := by decide +kernel
theorem dX5_nextCell_44 : decode cX5_nextCell 44 = .ok (.iload_n 3, 1) := by decide +kernel
theorem dX5_nextCell_45 : decode cX5_nextCell 45 = .ok (.invokevirtual 36, 3) := by decide +kernel
theorem dX5_nextCell_48 : decode cX5_nextCell 48 = .ok (.iload 4, 2) := by decide +kernel
theorem dX5_nextCell_50 : decode cX5_nextCell 50 = .ok (.iconst 1, 1) := by decide +kernel
theorem dX5_nextCell_51 : decode cX5_nextCell 51 = .ok (.isub, 1) := by decide +kernel
theorem dX5_nextCell_52 : decode cX5_nextCell 52 = .ok (.if_icmp .ne 6, 3) := by decide +kernel
theorem dX5_nextCell_55 : decode cX5_nextCell 55 = .ok (.iload 6, 2) := by decide +kernel
theorem dX5_nextCell_57 : decode cX5_nextCell 57 = .ok (.ireturn, 1) := by decide +kernel
theorem dX5_nextCell_58 : decode cX5_nextCell 58 = .ok (.iinc 6 1, 3) := by decide +kernel
theorem dX5_nextCell_61 : decode cX5_nextCell 61 = .ok (.goto (-38), 3) := by decide +kernel
theorem dX5_nextCell_64 : decode cX5_nextCell 64 = .ok (.iload_n 1, 1) := by decide +kernel
theorem dX5_nextCell_65 : decode cX5_nextCell 65 = .ok (.ireturn, 1) := by decide +kernel
theorem dX5_fewestStones_0 : decode cX5_fewestStones 0 = .ok (.iload_n 3, 1) := by decide +kernel
theorem dX5_fewestStones_1 : decode cX5_fewestStones 1 = .ok (.iload_n 1, 1) := by decide +kernel
theorem dX5_fewestStones_2 : decode cX5_fewestStones 2 = .ok (.invokestatic 28, 3) := by decide +kernel
theorem dX5_fewestStones_5 : decode cX5_fewestStones 5 = .ok (.ifCond .eq 7, 3) := by decide +kernel
theorem dX5_fewestStones_8 : decode cX5_fewestStones 8 = .ok (.iconst 0, 1) := by decide +kernel
theorem dX5_fewestStones_9 : decode cX5_fewestStones 9 = .ok (.goto 4, 3) := by decide +kernel
theorem dX5_fewestStones_12 : decode cX5_fewestStones 12 = .ok (.iconst 1, 1) := by decide +kernel
theorem dX5_fewestStones_13 : decode cX5_fewestStones 13 = .ok (.istore 4, 2) := by decide +kernel
theorem dX5_fewestStones_15 : decode cX5_fewestStones 15 = .ok (.aload_n 0, 1) := by decide +kernel
theorem dX5_fewestStones_16 : decode cX5_fewestStones 16 = .ok (.iconst 1, 1) := by decide +kernel
theorem dX5_fewestStones_17 : decode cX5_fewestStones 17 = .ok (.iload_n 1, 1) := by decide +kernel
theorem dX5_fewestStones_18 : decode cX5_fewestStones 18 = .ok (.ishl, 1) := by decide +kernel
theorem dX5_fewestStones_19 : decode cX5_fewestStones 19 = .ok (.iload_n 3, 1) := by decide +kernel
theorem dX5_fewestStones_20 : decode cX5_fewestStones 20 = .ok (.invokevirtual 32, 3) := by decide +kernel
theorem dX5_fewestStones_23 : decode cX5_fewestStones 23 = .ok (.istore 5, 2) := by decide +kernel
theorem dX5_fewestStones_25 : decode cX5_fewestStones 25 = .ok (.iload 5, 2) := by decide +kernel
theorem dX5_fewestStones_27 : decode cX5_fewestStones 27 = .ok (.iload_n 2, 1) := by decide +kernel
theorem dX5_fewestStones_28 : decode cX5_fewestStones 28 = .ok (.invokestatic 28, 3) := by decide +kernel
theorem dX5_fewestStones_31 : decode cX5_fewestStones 31 = .ok (.ifCond .ne 32, 3) := by decide +kernel
theorem dX5_fewestStones_34 : decode cX5_fewestStones 34 = .ok (.iload 4, 2) := by decide +kernel
theorem dX5_fewestStones_36 : decode cX5_fewestStones 36 = .ok (.bipush 24, 2) := by decide +kernel
theorem dX5_fewestStones_38 : decode cX5_fewestStones 38 = .ok (.if_icmp .ge 25, 3) := by decide +kernel
theorem dX5_fewestStones_41 : decode cX5_fewestStones 41 = .ok (.aload_n 0, 1) := by decide +kernel
theorem dX5_fewestStones_42 : decode cX5_fewestStones 42 = .ok (.iload 5, 2) := by decide +kernel
theorem dX5_fewestStones_44 : decode cX5_fewestStones 44 = .ok (.aload_n 0, 1) := by decide +kernel
theorem dX5_fewestStones_45 : decode cX5_fewestStones 45 = .ok (.iload 5, 2) := by decide +kernel
theorem dX5_fewestStones_47 : decode cX5_fewestStones 47 = .ok (.invokevirtual 24, 3) := by decide +kernel
theorem dX5_fewestStones_50 : decode cX5_fewestStones 50 = .ok (.ior, 1) := by decide +kernel
theorem dX5_fewestStones_51 : decode cX5_fewestStones 51 = .ok (.iload_n 3, 1) := by decide +kernel
theorem dX5_fewestStones_52 : decode cX5_fewestStones 52 = .ok (.invokevirtual 32, 3) := by decide +kernel
theorem dX5_fewestStones_55 : decode cX5_fewestStones 55 = .ok (.istore 5, 2) := by decide +kernel
theorem dX5_fewestStones_57 : decode cX5_fewestStones 57 = .ok (.iinc 4 1, 3) := by decide +kernel
theorem dX5_fewestStones_60 : decode cX5_fewestStones 60 = .ok (.goto (-35), 3) := by decide +kernel
theorem dX5_fewestStones_63 : decode cX5_fewestStones 63 = .ok (.iload 4, 2) := by decide +kernel
theorem dX5_fewestStones_65 : decode cX5_fewestStones 65 = .ok (.ireturn, 1) := by decide +kernel
theorem dX6_init_0 : decode cX6_init 0 = .ok (.aload_n 0, 1) := by decide +kernel
theorem dX6_init_1 : decode cX6_init 1 = .ok (.invokespecial 1, 3) := by decide +kernel
theorem dX6_init_4 : decode cX6_init 4 = .ok (.aload_n 0, 1) := by decide +kernel
theorem dX6_init_5 : decode cX6_init 5 = .ok (.new 7, 3) := by decide +kernel
theorem dX6_init_8 : decode cX6_init 8 = .ok (.dup, 1) := by decide +kernel
theorem dX6_init_9 : decode cX6_init 9 = .ok (.invokespecial 9, 3) := by decide +kernel
theorem dX6_init_12 : decode cX6_init 12 = .ok (.putfield 10, 3) := by decide +kernel
theorem dX6_init_15 : decode cX6_init 15 = .ok (.aload_n 0, 1) := by decide +kernel
theorem dX6_init_16 : decode cX6_init 16 = .ok (.aload_n 0, 1) := by decide +kernel
theorem dX6_init_17 : decode cX6_init 17 = .ok (.getfield 10, 3) := by decide +kernel
theorem dX6_init_20 : decode cX6_init 20 = .ok (.getfield 16, 3) := by decide +kernel
theorem dX6_init_23 : decode cX6_init 23 = .ok (.putfield 20, 3) := by decide +kernel
theorem dX6_init_26 : decode cX6_init 26 = .ok (.aload_n 0, 1) := by decide +kernel
theorem dX6_init_27 : decode cX6_init 27 = .ok (.new 21, 3) := by decide +kernel
theorem dX6_init_30 : decode cX6_init 30 = .ok (.dup, 1) := by decide +kernel
theorem dX6_init_31 : decode cX6_init 31 = .ok (.invokespecial 23, 3) := by decide +kernel
theorem dX6_init_34 : decode cX6_init 34 = .ok (.putfield 24, 3) := by decide +kernel
theorem dX6_init_37 : decode cX6_init 37 = .ok (.aload_n 0, 1) := by decide +kernel
theorem dX6_init_38 : decode cX6_init 38 = .ok (.new 21, 3) := by decide +kernel
theorem dX6_init_41 : decode cX6_init 41 = .ok (.dup, 1) := by decide +kernel
theorem dX6_init_42 : decode cX6_init 42 = .ok (.invokespecial 23, 3) := by decide +kernel
theorem dX6_init_45 : decode cX6_init 45 = .ok (.putfield 28, 3) := by decide +kernel
theorem dX6_init_48 : decode cX6_init 48 = .ok (.aload_n 0, 1) := by decide +kernel
theorem dX6_init_49 : decode cX6_init 49 = .ok (.new 31, 3) := by decide +kernel
theorem dX6_init_52 : decode cX6_init 52 = .ok (.dup, 1) := by decide +kernel
theorem dX6_init_53 : decode cX6_init 53 = .ok (.invokespecial 33, 3) := by decide +kernel
theorem dX6_init_56 : decode cX6_init 56 = .ok (.putfield 34, 3) := by decide +kernel
theorem dX6_init_59 : decode cX6_init 59 = .ok (.aload_n 0, 1) := by decide +kernel
theorem dX6_init_60 : decode cX6_init 60 = .ok (.aload_n 0, 1) := by decide +kernel
theorem dX6_init_61 : decode cX6_init 61 = .ok (.getfield 34, 3) := by decide +kernel
theorem dX6_init_64 : decode cX6_init 64 = .ok (.getfield 38, 3) := by decide +kernel
theorem dX6_init_67 : decode cX6_init 67 = .ok (.putfield 42, 3) := by decide +kernel
theorem dX6_init_70 : decode cX6_init 70 = .ok (.aload_n 0, 1) := by decide +kernel
theorem dX6_init_71 : decode cX6_init 71 = .ok (.new 43, 3) := by decide +kernel
theorem dX6_init_74 : decode cX6_init 74 = .ok (.dup, 1) := by decide +kernel
theorem dX6_init_75 : decode cX6_init 75 = .ok (.invokespecial 45, 3) := by decide +kernel
theorem dX6_init_78 : decode cX6_init 78 = .ok (.putfield 46, 3) := by decide +kernel
theorem dX6_init_81 : decode cX6_init 81 = .ok (.aload_n 0, 1) := by decide +kernel
theorem dX6_init_82 : decode cX6_init 82 = .ok (.new 43, 3) := by decide +kernel
theorem dX6_init_85 : decode cX6_init 85 = .ok (.dup, 1) := by decide +kernel
theorem dX6_init_86 : decode cX6_init 86 = .ok (.invokespecial 45, 3) := by decide +kernel
theorem dX6_init_89 : decode cX6_init 89 = .ok (.putfield 50, 3) := by decide +kernel
theorem dX6_init_92 : decode cX6_init 92 = .ok (.aload_n 0, 1) := by decide +kernel
theorem dX6_init_93 : decode cX6_init 93 = .ok (.new 43, 3) := by decide +kernel
theorem dX6_init_96 : decode cX6_init 96 = .ok (.dup, 1) := by decide +kernel
theorem dX6_init_97 : decode cX6_init 97 = .ok (.invokespecial 45, 3) := by decide +kernel
theorem dX6_init_100 : decode cX6_init 100 = .ok (.putfield 53, 3) := by decide +kernel
theorem dX6_init_103 : decode cX6_init 103 = .ok (.aload_n 0, 1) := by decide +kernel
theorem dX6_init_104 : decode cX6_init 104 = .ok (.lconst 0, 1) := by decide +kernel
theorem dX6_init_105 : decode cX6_init 105 = .ok (.putfield 56, 3) := by decide +kernel
theorem dX6_init_108 : decode cX6_init 108 = .ok (.return_, 1) := by decide +kernel
theorem dX6_type_0 : decode cX6_type 0 = .ok (.iload_n 3, 1) := by decide +kernel
theorem dX6_type_1 : decode cX6_type 1 = .ok (.iconst 1, 1) := by decide +kernel
theorem dX6_type_2 : decode cX6_type 2 = .ok (.if_icmp .lt 9, 3) := by decide +kernel
theorem dX6_type_5 : decode cX6_type 5 = .ok (.iload_n 3, 1) := by decide +kernel
theorem dX6_type_6 : decode cX6_type 6 = .ok (.bipush 8, 2) := by decide +kernel
theorem dX6_type_8 : decode cX6_type 8 = .ok (.if_icmp .le 5, 3) := by decide +kernel
theorem dX6_type_11 : decode cX6_type 11 = .ok (.iconst (-1), 1) := by decide +kernel
theorem dX6_type_12 : decode cX6_type 12 = .ok (.ireturn, 1) := by decide +kernel
theorem dX6_type_13 : decode cX6_type 13 = .ok (.aload_n 0, 1) := by decide +kernel
theorem dX6_type_14 : decode cX6_type 14 = .ok (.getfield 20, 3) := by decide +kernel
theorem dX6_type_17 : decode cX6_type 17 = .ok (.getfield 60, 3) := by decide +kernel
theorem dX6_type_20 : decode cX6_type 20 = .ok (.iload_n 3, 1) := by decide +kernel
theorem dX6_type_21 : decode cX6_type 21 = .ok (.iadd, 1) := by decide +kernel
theorem dX6_type_22 : decode cX6_type 22 = .ok (.sipush 300, 3) := by decide +kernel
theorem dX6_type_25 : decode cX6_type 25 = .ok (.if_icmp .le 6, 3) := by decide +kernel
theorem dX6_type_28 : decode cX6_type 28 = .ok (.bipush (-3), 2) := by decide +kernel
theorem dX6_type_30 : decode cX6_type 30 = .ok (.ireturn, 1) := by decide +kernel
theorem dX6_type_31 : decode cX6_type 31 = .ok (.iload_n 3, 1) := by decide +kernel
theorem dX6_type_32 : decode cX6_type 32 = .ok (.iconst 1, 1) := by decide +kernel
theorem dX6_type_33 : decode cX6_type 33 = .ok (.isub, 1) := by decide +kernel
theorem dX6_type_34 : decode cX6_type 34 = .ok (.istore 4, 2) := by decide +kernel
theorem dX6_type_36 : decode cX6_type 36 = .ok (.iload 4, 2) := by decide +kernel
theorem dX6_type_38 : decode cX6_type 38 = .ok (.ifCond .lt 28, 3) := by decide +kernel
theorem dX6_type_41 : decode cX6_type 41 = .ok (.aload_n 0, 1) := by decide +kernel
theorem dX6_type_42 : decode cX6_type 42 = .ok (.getfield 20, 3) := by decide +kernel
theorem dX6_type_45 : decode cX6_type 45 = .ok (.lload_n 1, 1) := by decide +kernel
theorem dX6_type_46 : decode cX6_type 46 = .ok (.bipush 8, 2) := by decide +kernel
theorem dX6_type_48 : decode cX6_type 48 = .ok (.iload 4, 2) := by decide +kernel
theorem dX6_type_50 : decode cX6_type 50 = .ok (.imul, 1) := by decide +kernel
theorem dX6_type_51 : decode cX6_type 51 = .ok (.lushr, 1) := by decide +kernel
theorem dX6_type_52 : decode cX6_type 52 = .ok (.l2i, 1) := by decide +kernel
theorem dX6_type_53 : decode cX6_type 53 = .ok (.sipush 255, 3) := by decide +kernel
theorem dX6_type_56 : decode cX6_type 56 = .ok (.iand, 1) := by decide +kernel
theorem dX6_type_57 : decode cX6_type 57 = .ok (.invokevirtual 66, 3) := by decide +kernel
theorem dX6_type_60 : decode cX6_type 60 = .ok (.iinc 4 (-1), 3) := by decide +kernel
theorem dX6_type_63 : decode cX6_type 63 = .ok (.goto (-27), 3) := by decide +kernel
theorem dX6_type_66 : decode cX6_type 66 = .ok (.aload_n 0, 1) := by decide +kernel
theorem dX6_type_67 : decode cX6_type 67 = .ok (.getfield 20, 3) := by decide +kernel
theorem dX6_type_70 : decode cX6_type 70 = .ok (.getfield 60, 3) := by decide +kernel
theorem dX6_type_73 : decode cX6_type 73 = .ok (.ireturn, 1) := by decide +kernel
theorem dX6_clear_0 : decode cX6_clear 0 = .ok (.aload_n 0, 1) := by decide +kernel
theorem dX6_clear_1 : decode cX6_clear 1 = .ok (.getfield 20, 3) := by decide +kernel
theorem dX6_clear_4 : decode cX6_clear 4 = .ok (.invokevirtual 70, 3) := by decide +kernel
theorem dX6_clear_7 : decode cX6_clear 7 = .ok (.ireturn, 1) := by decide +kernel
theorem dX6_moor_0 : decode cX6_moor 0 = .ok (.aload_n 0, 1) := by decide +kernel
theorem dX6_moor_1 : decode cX6_moor 1 = .ok (.getfield 10, 3) := by decide +kernel
theorem dX6_moor_4 : decode cX6_moor 4 = .ok (.aload_n 0, 1) := by decide +kernel
theorem dX6_moor_5 : decode cX6_moor 5 = .ok (.getfield 28, 3) := by decide +kernel
theorem dX6_moor_8 : decode cX6_moor 8 = .ok (.invokevirtual 74, 3) := by decide +kernel
theorem dX6_moor_11 : decode cX6_moor 11 = .ok (.istore_n 1, 1) := by decide +kernel
theorem dX6_moor_12 : decode cX6_moor 12 = .ok (.iload_n 1, 1) := by decide +kernel
theorem dX6_moor_13 : decode cX6_moor 13 = .ok (.ifCond .ge 5, 3) := by decide +kernel
theorem dX6_moor_16 : decode cX6_moor 16 = .ok (.iload_n 1, 1) := by decide +kernel
theorem dX6_moor_17 : decode cX6_moor 17 = .ok (.ireturn, 1) := by decide +kernel
theorem dX6_moor_18 : decode cX6_moor 18 = .ok (.aload_n 0, 1) := by decide +kernel
theorem dX6_moor_19 : decode cX6_moor 19 = .ok (.getfield 20, 3) := by decide +kernel
theorem dX6_moor_22 : decode cX6_moor 22 = .ok (.invokevirtual 70, 3) := by decide +kernel
theorem dX6_moor_25 : decode cX6_moor 25 = .ok (.pop, 1) := by decide +kernel
theorem dX6_moor_26 : decode cX6_moor 26 = .ok (.aload_n 0, 1) := by decide +kernel
theorem dX6_moor_27 : decode cX6_moor 27 = .ok (.getfield 24, 3) := by decide +kernel
theorem dX6_moor_30 : decode cX6_moor 30 = .ok (.aload_n 0, 1) := by decide +kernel
theorem dX6_moor_31 : decode cX6_moor 31 = .ok (.getfield 28, 3) := by decide +kernel
theorem dX6_moor_34 : decode cX6_moor 34 = .ok (.invokevirtual 78, 3) := by decide +kernel
theorem dX6_moor_37 : decode cX6_moor 37 = .ok (.aload_n 0, 1) := by decide +kernel
theorem dX6_moor_38 : decode cX6_moor 38 = .ok (.getfield 42, 3) := by decide +kernel
theorem dX6_moor_41 : decode cX6_moor 41 = .ok (.aload_n 0, 1) := by decide +kernel
theorem dX6_moor_42 : decode cX6_moor 42 = .ok (.getfield 24, 3) := by decide +kernel
theorem dX6_moor_45 : decode cX6_moor 45 = .ok (.getfield 82, 3) := by decide +kernel
theorem dX6_moor_48 : decode cX6_moor 48 = .ok (.aload_n 0, 1) := by decide +kernel
theorem dX6_moor_49 : decode cX6_moor 49 = .ok (.getfield 24, 3) := by decide +kernel
theorem dX6_moor_52 : decode cX6_moor 52 = .ok (.getfield 85, 3) := by decide +kernel
theorem dX6_moor_55 : decode cX6_moor 55 = .ok (.invokevirtual 88, 3) := by decide +kernel
theorem dX6_moor_58 : decode cX6_moor 58 = .ok (.aload_n 0, 1) := by decide +kernel
theorem dX6_moor_59 : decode cX6_moor 59 = .ok (.getfield 46, 3) := by decide +kernel
theorem dX6_moor_62 : decode cX6_moor 62 = .ok (.aload_n 0, 1) := by decide +kernel
theorem dX6_moor_63 : decode cX6_moor 63 = .ok (.getfield 24, 3) := by decide +kernel
theorem dX6_moor_66 : decode cX6_moor 66 = .ok (.invokevirtual 94, 3) := by decide +kernel
theorem dX6_moor_69 : decode cX6_moor 69 = .ok (.aload_n 0, 1) := by decide +kernel
theorem dX6_moor_70 : decode cX6_moor 70 = .ok (.getfield 50, 3) := by decide +kernel
theorem dX6_moor_73 : decode cX6_moor 73 = .ok (.iconst 0, 1) := by decide +kernel
theorem dX6_moor_74 : decode cX6_moor 74 = .ok (.putfield 97, 3) := by decide +kernel
theorem dX6_moor_77 : decode cX6_moor 77 = .ok (.aload_n 0, 1) := by decide +kernel
theorem dX6_moor_78 : decode cX6_moor 78 = .ok (.getfield 53, 3) := by decide +kernel
theorem dX6_moor_81 : decode cX6_moor 81 = .ok (.iconst 0, 1) := by decide +kernel
theorem dX6_moor_82 : decode cX6_moor 82 = .ok (.putfield 97, 3) := by decide +kernel
theorem dX6_moor_85 : decode cX6_moor 85 = .ok (.iload_n 1, 1) := by decide +kernel
theorem dX6_moor_86 : decode cX6_moor 86 = .ok (.ireturn, 1) := by decide +kernel
theorem dX6_cell_0 : decode cX6_cell 0 = .ok (.aload_n 0, 1) := by decide +kernel
theorem dX6_cell_1 : decode cX6_cell 1 = .ok (.iload_n 1, 1) := by decide +kernel
theorem dX6_cell_2 : decode cX6_cell 2 = .ok (.invokevirtual 101, 3) := by decide +kernel
theorem dX6_cell_5 : decode cX6_cell 5 = .ok (.ifCond .ne 5, 3) := by decide +kernel
theorem dX6_cell_8 : decode cX6_cell 8 = .ok (.iconst (-1), 1) := by decide +kernel
theorem dX6_cell_9 : decode cX6_cell 9 = .ok (.ireturn, 1) := by decide +kernel
theorem dX6_cell_10 : decode cX6_cell 10 = .ok (.iload_n 2, 1) := by decide +kernel
theorem dX6_cell_11 : decode cX6_cell 11 = .ok (.tableswitch 58 0 2 #[25, 34, 46], 25) := by decide +kernel
theorem dX6_cell_36 : decode cX6_cell 36 = .ok (.aload_n 0, 1) := by decide +kernel
theorem dX6_cell_37 : decode cX6_cell 37 = .ok (.getfield 46, 3) := by decide +kernel
theorem dX6_cell_40 : decode cX6_cell 40 = .ok (.iload_n 1, 1) := by decide +kernel
theorem dX6_cell_41 : decode cX6_cell 41 = .ok (.invokevirtual 105, 3) := by decide +kernel
theorem dX6_cell_44 : decode cX6_cell 44 = .ok (.ireturn, 1) := by decide +kernel
theorem dX6_cell_45 : decode cX6_cell 45 = .ok (.aload_n 0, 1) := by decide +kernel
theorem dX6_cell_46 : decode cX6_cell 46 = .ok (.getfield 46, 3) := by decide +kernel
theorem dX6_cell_49 : decode cX6_cell 49 = .ok (.getfield 109, 3) := by decide +kernel
theorem dX6_cell_52 : decode cX6_cell 52 = .ok (.iload_n 1, 1) := by decide +kernel
theorem dX6_cell_53 : decode cX6_cell 53 = .ok (.invokestatic 113, 3) := by decide +kernel
theorem dX6_cell_56 : decode cX6_cell 56 = .ok (.ireturn, 1) := by decide +kernel
theorem dX6_cell_57 : decode cX6_cell 57 = .ok (.aload_n 0, 1) := by decide +kernel
theorem dX6_cell_58 : decode cX6_cell 58 = .ok (.getfield 46, 3) := by decide +kernel
theorem dX6_cell_61 : decode cX6_cell 61 = .ok (.getfield 117, 3) := by decide +kernel
theorem dX6_cell_64 : decode cX6_cell 64 = .ok (.iload_n 1, 1) := by decide +kernel
theorem dX6_cell_65 : decode cX6_cell 65 = .ok (.invokestatic 113, 3) := by decide +kernel
theorem dX6_cell_68 : decode cX6_cell 68 = .ok (.ireturn, 1) := by decide +kernel
theorem dX6_cell_69 : decode cX6_cell 69 = .ok (.iconst (-1), 1) := by decide +kernel
theorem dX6_cell_70 : decode cX6_cell 70 = .ok (.ireturn, 1) := by decide +kernel
theorem dX6_walker_0 : decode cX6_walker 0 = .ok (.aload_n 0, 1) := by decide +kernel
theorem dX6_walker_1 : decode cX6_walker 1 = .ok (.iload_n 1, 1) := by decide +kernel
theorem dX6_walker_2 : decode cX6_walker 2 = .ok (.invokevirtual 120, 3) := by decide +kernel
theorem dX6_walker_5 : decode cX6_walker 5 = .ok (.ifCond .ne 5, 3) := by decide +kernel
theorem dX6_walker_8 : decode cX6_walker 8 = .ok (.iconst (-1), 1) := by decide +kernel
theorem dX6_walker_9 : decode cX6_walker 9 = .ok (.ireturn, 1) := by decide +kernel
theorem dX6_walker_10 : decode cX6_walker 10 = .ok (.iload_n 2, 1) := by decide +kernel
theorem dX6_walker_11 : decode cX6_walker 11 = .ok (.tableswitch 74 0 3 #[29, 41, 53, 65], 29) := by decide +kernel
theorem dX6_walker_40 : decode cX6_walker 40 = .ok (.aload_n 0, 1) := by decide +kernel
theorem dX6_walker_41 : decode cX6_walker 41 = .ok (.getfield 24, 3) := by decide +kernel
theorem dX6_walker_44 : decode cX6_walker 44 = .ok (.getfield 123, 3) := by decide +kernel
theorem dX6_walker_47 : decode cX6_walker 47 = .ok (.iload_n 1, 1) := by decide +kernel
theorem dX6_walker_48 : decode cX6_walker 48 = .ok (.invokestatic 113, 3) := by decide +kernel
theorem dX6_walker_51 : decode cX6_walker 51 = .ok (.ireturn, 1) := by decide +kernel
theorem dX6_walker_52 : decode cX6_walker 52 = .ok (.aload_n 0, 1) := by decide +kernel
theorem dX6_walker_53 : decode cX6_walker 53 = .ok (.getfield 24, 3) := by decide +kernel
theorem dX6_walker_56 : decode cX6_walker 56 = .ok (.getfield 126, 3) := by decide +kernel
theorem dX6_walker_59 : decode cX6_walker 59 = .ok (.iload_n 1, 1) := by decide +kernel
theorem dX6_walker_60 : decode cX6_walker 60 = .ok (.invokestatic 113, 3) := by decide +kernel
theorem dX6_walker_63 : decode cX6_walker 63 = .ok (.ireturn, 1) := by decide +kernel
theorem dX6_walker_64 : decode cX6_walker 64 = .ok (.aload_n 0, 1) := by decide +kernel
theorem dX6_walker_65 : decode cX6_walker 65 = .ok (.getfield 46, 3) := by decide +kernel
theorem dX6_walker_68 : decode cX6_walker 68 = .ok (.getfield 129, 3) := by decide +kernel
theorem dX6_walker_71 : decode cX6_walker 71 = .ok (.iload_n 1, 1) := by decide +kernel
theorem dX6_walker_72 : decode cX6_walker 72 = .ok (.invokestatic 113, 3) := by decide +kernel
theorem dX6_walker_75 : decode cX6_walker 75 = .ok (.ireturn, 1) := by decide +kernel
theorem dX6_walker_76 : decode cX6_walker 76 = .ok (.aload_n 0, 1) := by decide +kernel
theorem dX6_walker_77 : decode cX6_walker 77 = .ok (.getfield 46, 3) := by decide +kernel
theorem dX6_walker_80 : decode cX6_walker 80 = .ok (.iload_n 1, 1) := by decide +kernel
theorem dX6_walker_81 : decode cX6_walker 81 = .ok (.invokevirtual 132, 3) := by decide +kernel
theorem dX6_walker_84 : decode cX6_walker 84 = .ok (.ireturn, 1) := by decide +kernel
theorem dX6_walker_85 : decode cX6_walker 85 = .ok (.iconst (-1), 1) := by decide +kernel
theorem dX6_walker_86 : decode cX6_walker 86 = .ok (.ireturn, 1) := by decide +kernel
theorem dX6_passes_0 : decode cX6_passes 0 = .ok (.aload_n 0, 1) := by decide +kernel
theorem dX6_passes_1 : decode cX6_passes 1 = .ok (.iload_n 1, 1) := by decide +kernel
theorem dX6_passes_2 : decode cX6_passes 2 = .ok (.invokevirtual 120, 3) := by decide +kernel
theorem dX6_passes_5 : decode cX6_passes 5 = .ok (.ifCond .eq 11, 3) := by decide +kernel
theorem dX6_passes_8 : decode cX6_passes 8 = .ok (.aload_n 0, 1) := by decide +kernel
theorem dX6_passes_9 : decode cX6_passes 9 = .ok (.iload_n 2, 1) := by decide +kernel
theorem dX6_passes_10 : decode cX6_passes 10 = .ok (.invokevirtual 101, 3) := by decide +kernel
theorem dX6_passes_13 : decode cX6_passes 13 = .ok (.ifCond .ne 5, 3) := by decide +kernel
theorem dX6_passes_16 : decode cX6_passes 16 = .ok (.iconst (-1), 1) := by decide +kernel
theorem dX6_passes_17 : decode cX6_passes 17 = .ok (.ireturn, 1) := by decide +kernel
theorem dX6_passes_18 : decode cX6_passes 18 = .ok (.aload_n 0, 1) := by decide +kernel
theorem dX6_passes_19 : decode cX6_passes 19 = .ok (.iload_n 1, 1) := by decide +kernel
theorem dX6_passes_20 : decode cX6_passes 20 = .ok (.invokevirtual 135, 3) := by decide +kernel
theorem dX6_passes_23 : decode cX6_passes 23 = .ok (.bipush (-9), 2) := by decide +kernel
theorem dX6_passes_25 : decode cX6_passes 25 = .ok (.if_icmp .eq 17, 3) := by decide +kernel
theorem dX6_passes_28 : decode cX6_passes 28 = .ok (.aload_n 0, 1) := by decide +kernel
theorem dX6_passes_29 : decode cX6_passes 29 = .ok (.getfield 46, 3) := by decide +kernel
theorem dX6_passes_32 : decode cX6_passes 32 = .ok (.getfield 138, 3) := by decide +kernel
theorem dX6_passes_35 : decode cX6_passes 35 = .ok (.iload_n 2, 1) := by decide +kernel
theorem dX6_passes_36 : decode cX6_passes 36 = .ok (.invokestatic 141, 3) := by decide +kernel
theorem dX6_passes_39 : decode cX6_passes 39 = .ok (.ifCond .ne 6, 3) := by decide +kernel
theorem dX6_passes_42 : decode cX6_passes 42 = .ok (.bipush (-2), 2) := by decide +kernel
theorem dX6_passes_44 : decode cX6_passes 44 = .ok (.ireturn, 1) := by decide +kernel
theorem dX6_passes_45 : decode cX6_passes 45 = .ok (.aload_n 0, 1) := by decide +kernel
theorem dX6_passes_46 : decode cX6_passes 46 = .ok (.iload_n 1, 1) := by decide +kernel
theorem dX6_passes_47 : decode cX6_passes 47 = .ok (.iload_n 2, 1) := by decide +kernel
theorem dX6_passes_48 : decode cX6_passes 48 = .ok (.invokevirtual 145, 3) := by decide +kernel
theorem dX6_passes_51 : decode cX6_passes 51 = .ok (.ireturn, 1) := by decide +kernel
theorem dX6_days_0 : decode cX6_days 0 = .ok (.iload_n 1, 1) := by decide +kernel
theorem dX6_days_1 : decode cX6_days 1 = .ok (.iconst 1, 1) := by decide +kernel
theorem dX6_days_2 : decode cX6_days 2 = .ok (.if_icmp .lt 9, 3) := by decide +kernel
theorem dX6_days_5 : decode cX6_days 5 = .ok (.iload_n 1, 1) := by decide +kernel
theorem dX6_days_6 : decode cX6_days 6 = .ok (.bipush 9, 2) := by decide +kernel
theorem dX6_days_8 : decode cX6_days 8 = .ok (.if_icmp .le 5, 3) := by decide +kernel
theorem dX6_days_11 : decode cX6_days 11 = .ok (.iconst (-1), 1) := by decide +kernel
theorem dX6_days_12 : decode cX6_days 12 = .ok (.ireturn, 1) := by decide +kernel
theorem dX6_days_13 : decode cX6_days 13 = .ok (.iconst 0, 1) := by decide +kernel
theorem dX6_days_14 : decode cX6_days 14 = .ok (.istore_n 2, 1) := by decide +kernel
theorem dX6_days_15 : decode cX6_days 15 = .ok (.iconst 0, 1) := by decide +kernel
theorem dX6_days_16 : decode cX6_days 16 = .ok (.istore_n 3, 1) := by decide +kernel
theorem dX6_days_17 : decode cX6_days 17 = .ok (.iload_n 3, 1) := by decide +kernel
theorem dX6_days_18 : decode cX6_days 18 = .ok (.iload_n 1, 1) := by decide +kernel
theorem dX6_days_19 : decode cX6_days 19 = .ok (.if_icmp .ge 70, 3) := by decide +kernel
theorem dX6_days_22 : decode cX6_days 22 = .ok (.iconst 0, 1) := by decide +kernel
theorem dX6_days_23 : decode cX6_days 23 = .ok (.istore 4, 2) := by decide +kernel
theorem dX6_days_25 : decode cX6_days 25 = .ok (.iload 4, 2) := by decide +kernel
theorem dX6_days_27 : decode cX6_days 27 = .ok (.aload_n 0, 1) := by decide +kernel
theorem dX6_days_28 : decode cX6_days 28 = .ok (.getfield 24, 3) := by decide +kernel
theorem dX6_days_31 : decode cX6_days 31 = .ok (.getfield 149, 3) := by decide +kernel
theorem dX6_days_34 : decode cX6_days 34 = .ok (.if_icmp .ge 49, 3) := by decide +kernel
theorem dX6_days_37 : decode cX6_days 37 = .ok (.aload_n 0, 1) := by decide +kernel
theorem dX6_days_38 : decode cX6_days 38 = .ok (.iload 4, 2) := by decide +kernel
theorem dX6_days_40 : decode cX6_days 40 = .ok (.invokevirtual 135, 3) := by decide +kernel
theorem dX6_days_43 : decode cX6_days 43 = .ok (.bipush (-9), 2) := by decide +kernel
theorem dX6_days_45 : decode cX6_days 45 = .ok (.if_icmp .eq 13, 3) := by decide +kernel
theorem dX6_days_48 : decode cX6_days 48 = .ok (.aload_n 0, 1) := by decide +kernel
theorem dX6_days_49 : decode cX6_days 49 = .ok (.getfield 46, 3) := by decide +kernel
theorem dX6_days_52 : decode cX6_days 52 = .ok (.getfield 138, 3) := by decide +kernel
theorem dX6_days_55 : decode cX6_days 55 = .ok (.ifCond .ne 9, 3) := by decide +kernel
theorem dX6_days_58 : decode cX6_days 58 = .ok (.iinc 2 1, 3) := by decide +kernel
theorem dX6_days_61 : decode cX6_days 61 = .ok (.goto 16, 3) := by decide +kernel
theorem dX6_days_64 : decode cX6_days 64 = .ok (.aload_n 0, 1) := by decide +kernel
theorem dX6_days_65 : decode cX6_days 65 = .ok (.iload 4, 2) := by decide +kernel
theorem dX6_days_67 : decode cX6_days 67 = .ok (.aload_n 0, 1) := by decide +kernel
theorem dX6_days_68 : decode cX6_days 68 = .ok (.iload 4, 2) := by decide +kernel
theorem dX6_days_70 : decode cX6_days 70 = .ok (.invokevirtual 152, 3) := by decide +kernel
theorem dX6_days_73 : decode cX6_days 73 = .ok (.invokevirtual 145, 3) := by decide +kernel
theorem dX6_days_76 : decode cX6_days 76 = .ok (.pop, 1) := by decide +kernel
theorem dX6_days_77 : decode cX6_days 77 = .ok (.iinc 4 1, 3) := by decide +kernel
theorem dX6_days_80 : decode cX6_days 80 = .ok (.goto (-55), 3) := by decide +kernel
theorem dX6_days_83 : decode cX6_days 83 = .ok (.iinc 3 1, 3) := by decide +kernel
theorem dX6_days_86 : decode cX6_days 86 = .ok (.goto (-69), 3) := by decide +kernel
theorem dX6_days_89 : decode cX6_days 89 = .ok (.iload_n 2, 1) := by decide +kernel
theorem dX6_days_90 : decode cX6_days 90 = .ok (.ireturn, 1) := by decide +kernel
theorem dX6_now_0 : decode cX6_now 0 = .ok (.iload_n 1, 1) := by decide +kernel
theorem dX6_now_1 : decode cX6_now 1 = .ok (.tableswitch 92 0 3 #[31, 62, 73, 84], 31) := by decide +kernel
theorem dX6_now_32 : decode cX6_now 32 = .ok (.aload_n 0, 1) := by decide +kernel
theorem dX6_now_33 : decode cX6_now 33 = .ok (.getfield 42, 3) := by decide +kernel
theorem dX6_now_36 : decode cX6_now 36 = .ok (.getfield 155, 3) := by decide +kernel
theorem dX6_now_39 : decode cX6_now 39 = .ok (.aload_n 0, 1) := by decide +kernel
theorem dX6_now_40 : decode cX6_now 40 = .ok (.getfield 46, 3) := by decide +kernel
theorem dX6_now_43 : decode cX6_now 43 = .ok (.getfield 138, 3) := by decide +kernel
theorem dX6_now_46 : decode cX6_now 46 = .ok (.iconst (-1), 1) := by decide +kernel
theorem dX6_now_47 : decode cX6_now 47 = .ok (.ixor, 1) := by decide +kernel
theorem dX6_now_48 : decode cX6_now 48 = .ok (.iand, 1) := by decide +kernel
theorem dX6_now_49 : decode cX6_now 49 = .ok (.aload_n 0, 1) := by decide +kernel
theorem dX6_now_50 : decode cX6_now 50 = .ok (.getfield 46, 3) := by decide +kernel
theorem dX6_now_53 : decode cX6_now 53 = .ok (.getfield 158, 3) := by decide +kernel
theorem dX6_now_56 : decode cX6_now 56 = .ok (.iconst (-1), 1) := by decide +kernel
theorem dX6_now_57 : decode cX6_now 57 = .ok (.ixor, 1) := by decide +kernel
theorem dX6_now_58 : decode cX6_now 58 = .ok (.iand, 1) := by decide +kernel
theorem dX6_now_59 : decode cX6_now 59 = .ok (.invokestatic 161, 3) := by decide +kernel
theorem dX6_now_62 : decode cX6_now 62 = .ok (.ireturn, 1) := by decide +kernel
theorem dX6_now_63 : decode cX6_now 63 = .ok (.aload_n 0, 1) := by decide +kernel
theorem dX6_now_64 : decode cX6_now 64 = .ok (.getfield 46, 3) := by decide +kernel
theorem dX6_now_67 : decode cX6_now 67 = .ok (.getfield 138, 3) := by decide +kernel
theorem dX6_now_70 : decode cX6_now 70 = .ok (.invokestatic 161, 3) := by decide +kernel
theorem dX6_now_73 : decode cX6_now 73 = .ok (.ireturn, 1) := by decide +kernel
theorem dX6_now_74 : decode cX6_now 74 = .ok (.aload_n 0, 1) := by decide +kernel
theorem dX6_now_75 : decode cX6_now 75 = .ok (.getfield 46, 3) := by decide +kernel
theorem dX6_now_78 : decode cX6_now 78 = .ok (.getfield 158, 3) := by decide +kernel
theorem dX6_now_81 : decode cX6_now 81 = .ok (.invokestatic 161, 3) := by decide +kernel
theorem dX6_now_84 : decode cX6_now 84 = .ok (.ireturn, 1) := by decide +kernel
theorem dX6_now_85 : decode cX6_now 85 = .ok (.aload_n 0, 1) := by decide +kernel
theorem dX6_now_86 : decode cX6_now 86 = .ok (.getfield 46, 3) := by decide +kernel
theorem dX6_now_89 : decode cX6_now 89 = .ok (.invokevirtual 166, 3) := by decide +kernel
theorem dX6_now_92 : decode cX6_now 92 = .ok (.ireturn, 1) := by decide +kernel
theorem dX6_now_93 : decode cX6_now 93 = .ok (.iconst (-1), 1) := by decide +kernel
theorem dX6_now_94 : decode cX6_now 94 = .ok (.ireturn, 1) := by decide +kernel
theorem dX6_anew_0 : decode cX6_anew 0 = .ok (.aload_n 0, 1) := by decide +kernel
theorem dX6_anew_1 : decode cX6_anew 1 = .ok (.getfield 46, 3) := by decide +kernel
theorem dX6_anew_4 : decode cX6_anew 4 = .ok (.invokevirtual 166, 3) := by decide +kernel
theorem dX6_anew_7 : decode cX6_anew 7 = .ok (.istore_n 1, 1) := by decide +kernel
theorem dX6_anew_8 : decode cX6_anew 8 = .ok (.aload_n 0, 1) := by decide +kernel
theorem dX6_anew_9 : decode cX6_anew 9 = .ok (.getfield 46, 3) := by decide +kernel
theorem dX6_anew_12 : decode cX6_anew 12 = .ok (.aload_n 0, 1) := by decide +kernel
theorem dX6_anew_13 : decode cX6_anew 13 = .ok (.getfield 24, 3) := by decide +kernel
theorem dX6_anew_16 : decode cX6_anew 16 = .ok (.invokevirtual 94, 3) := by decide +kernel
theorem dX6_anew_19 : decode cX6_anew 19 = .ok (.iload_n 1, 1) := by decide +kernel
theorem dX6_anew_20 : decode cX6_anew 20 = .ok (.ireturn, 1) := by decide +kernel
theorem dX6_steps_0 : decode cX6_steps 0 = .ok (.aload_n 0, 1) := by decide +kernel
theorem dX6_steps_1 : decode cX6_steps 1 = .ok (.iload_n 1, 1) := by decide +kernel
theorem dX6_steps_2 : decode cX6_steps 2 = .ok (.invokevirtual 101, 3) := by decide +kernel
theorem dX6_steps_5 : decode cX6_steps 5 = .ok (.ifCond .eq 11, 3) := by decide +kernel
theorem dX6_steps_8 : decode cX6_steps 8 = .ok (.aload_n 0, 1) := by decide +kernel
theorem dX6_steps_9 : decode cX6_steps 9 = .ok (.iload_n 2, 1) := by decide +kernel
theorem dX6_steps_10 : decode cX6_steps 10 = .ok (.invokevirtual 101, 3) := by decide +kernel
theorem dX6_steps_13 : decode cX6_steps 13 = .ok (.ifCond .ne 5, 3) := by decide +kernel
theorem dX6_steps_16 : decode cX6_steps 16 = .ok (.iconst (-1), 1) := by decide +kernel
theorem dX6_steps_17 : decode cX6_steps 17 = .ok (.ireturn, 1) := by decide +kernel
theorem dX6_steps_18 : decode cX6_steps 18 = .ok (.aload_n 0, 1) := by decide +kernel
theorem dX6_steps_19 : decode cX6_steps 19 = .ok (.getfield 42, 3) := by decide +kernel
theorem dX6_steps_22 : decode cX6_steps 22 = .ok (.iload_n 1, 1) := by decide +kernel
theorem dX6_steps_23 : decode cX6_steps 23 = .ok (.iload_n 2, 1) := by decide +kernel
theorem dX6_steps_24 : decode cX6_steps 24 = .ok (.aload_n 0, 1) := by decide +kernel
theorem dX6_steps_25 : decode cX6_steps 25 = .ok (.invokevirtual 169, 3) := by decide +kernel
theorem dX6_steps_28 : decode cX6_steps 28 = .ok (.invokevirtual 172, 3) := by decide +kernel
theorem dX6_steps_31 : decode cX6_steps 31 = .ok (.ireturn, 1) := by decide +kernel
theorem dX6_way_0 : decode cX6_way 0 = .ok (.aload_n 0, 1) := by decide +kernel
theorem dX6_way_1 : decode cX6_way 1 = .ok (.iload_n 1, 1) := by decide +kernel
theorem dX6_way_2 : decode cX6_way 2 = .ok (.invokevirtual 101, 3) := by decide +kernel
theorem dX6_way_5 : decode cX6_way 5 = .ok (.ifCond .eq 15, 3) := by decide +kernel
theorem dX6_way_8 : decode cX6_way 8 = .ok (.aload_n 0, 1) := by decide +kernel
theorem dX6_way_9 : decode cX6_way 9 = .ok (.iload_n 2, 1) := by decide +kernel
theorem dX6_way_10 : decode cX6_way 10 = .ok (.invokevirtual 101, 3) := by decide +kernel
theorem dX6_way_13 : decode cX6_way 13 = .ok (.ifCond .eq 7, 3) := by decide +kernel
theorem dX6_way_16 : decode cX6_way 16 = .ok (.iload_n 3, 1) := by decide +kernel
theorem dX6_way_17 : decode cX6_way 17 = .ok (.ifCond .ge 5, 3) := by decide +kernel
theorem dX6_way_20 : decode cX6_way 20 = .ok (.iconst (-1), 1) := by decide +kernel
theorem dX6_way_21 : decode cX6_way 21 = .ok (.ireturn, 1) := by decide +kernel
theorem dX6_way_22 : decode cX6_way 22 = .ok (.aload_n 0, 1) := by decide +kernel
theorem dX6_way_23 : decode cX6_way 23 = .ok (.getfield 42, 3) := by decide +kernel
theorem dX6_way_26 : decode cX6_way 26 = .ok (.iload_n 1, 1) := by decide +kernel
theorem dX6_way_27 : decode cX6_way 27 = .ok (.iload_n 2, 1) := by decide +kernel
theorem dX6_way_28 : decode cX6_way 28 = .ok (.aload_n 0, 1) := by decide +kernel
theorem dX6_way_29 : decode cX6_way 29 = .ok (.invokevirtual 169, 3) := by decide +kernel
theorem dX6_way_32 : decode cX6_way 32 = .ok (.invokevirtual 172, 3) := by decide +kernel
theorem dX6_way_35 : decode cX6_way 35 = .ok (.istore 4, 2) := by decide +kernel
theorem dX6_way_37 : decode cX6_way 37 = .ok (.iload 4, 2) := by decide +kernel
theorem dX6_way_39 : decode cX6_way 39 = .ok (.bipush (-9), 2) := by decide +kernel
theorem dX6_way_41 : decode cX6_way 41 = .ok (.if_icmp .ne 6, 3) := by decide +kernel
theorem dX6_way_44 : decode cX6_way 44 = .ok (.bipush (-9), 2) := by decide +kernel
theorem dX6_way_46 : decode cX6_way 46 = .ok (.ireturn, 1) := by decide +kernel
theorem dX6_way_47 : decode cX6_way 47 = .ok (.iload_n 3, 1) := by decide +kernel
theorem dX6_way_48 : decode cX6_way 48 = .ok (.iload 4, 2) := by decide +kernel
theorem dX6_way_50 : decode cX6_way 50 = .ok (.if_icmp .le 6, 3) := by decide +kernel
theorem dX6_way_53 : decode cX6_way 53 = .ok (.bipush (-5), 2) := by decide +kernel
theorem dX6_way_55 : decode cX6_way 55 = .ok (.ireturn, 1) := by decide +kernel
theorem dX6_way_56 : decode cX6_way 56 = .ok (.iload_n 1, 1) := by decide +kernel
theorem dX6_way_57 : decode cX6_way 57 = .ok (.istore 5, 2) := by decide +kernel
theorem dX6_way_59 : decode cX6_way 59 = .ok (.iconst 0, 1) := by decide +kernel
theorem dX6_way_60 : decode cX6_way 60 = .ok (.istore 6, 2) := by decide +kernel
theorem dX6_way_62 : decode cX6_way 62 = .ok (.iload 6, 2) := by decide +kernel
theorem dX6_way_64 : decode cX6_way 64 = .ok (.iload_n 3, 1) := by decide +kernel
theorem dX6_way_65 : decode cX6_way 65 = .ok (.if_icmp .ge 25, 3) := by decide +kernel
theorem dX6_way_68 : decode cX6_way 68 = .ok (.aload_n 0, 1) := by decide +kernel
theorem dX6_way_69 : decode cX6_way 69 = .ok (.getfield 42, 3) := by decide +kernel
theorem dX6_way_72 : decode cX6_way 72 = .ok (.iload 5, 2) := by decide +kernel
theorem dX6_way_74 : decode cX6_way 74 = .ok (.iload_n 2, 1) := by decide +kernel
theorem dX6_way_75 : decode cX6_way 75 = .ok (.aload_n 0, 1) := by decide +kernel
theorem dX6_way_76 : decode cX6_way 76 = .ok (.invokevirtual 169, 3) := by decide +kernel
theorem dX6_way_79 : decode cX6_way 79 = .ok (.invokevirtual 176, 3) := by decide +kernel
theorem dX6_way_82 : decode cX6_way 82 = .ok (.istore 5, 2) := by decide +kernel
theorem dX6_way_84 : decode cX6_way 84 = .ok (.iinc 6 1, 3) := by decide +kernel
theorem dX6_way_87 : decode cX6_way 87 = .ok (.goto (-25), 3) := by decide +kernel
theorem dX6_way_90 : decode cX6_way 90 = .ok (.iload 5, 2) := by decide +kernel
theorem dX6_way_92 : decode cX6_way 92 = .ok (.ireturn, 1) := by decide +kernel
theorem dX6_stones_0 : decode cX6_stones 0 = .ok (.aload_n 0, 1) := by decide +kernel
theorem dX6_stones_1 : decode cX6_stones 1 = .ok (.iload_n 1, 1) := by decide +kernel
theorem dX6_stones_2 : decode cX6_stones 2 = .ok (.invokevirtual 101, 3) := by decide +kernel
theorem dX6_stones_5 : decode cX6_stones 5 = .ok (.ifCond .eq 11, 3) := by decide +kernel
theorem dX6_stones_8 : decode cX6_stones 8 = .ok (.aload_n 0, 1) := by decide +kernel
theorem dX6_stones_9 : decode cX6_stones 9 = .ok (.iload_n 2, 1) := by decide +kernel
theorem dX6_stones_10 : decode cX6_stones 10 = .ok (.invokevirtual 101, 3) := by decide +kernel
theorem dX6_stones_13 : decode cX6_stones 13 = .ok (.ifCond .ne 5, 3) := by decide +kernel
theorem dX6_stones_16 : decode cX6_stones 16 = .ok (.iconst (-1), 1) := by decide +kernel
theorem dX6_stones_17 : decode cX6_stones 17 = .ok (.ireturn, 1) := by decide +kernel
theorem dX6_stones_18 : decode cX6_stones 18 = .ok (.aload_n 0, 1) := by decide +kernel
theorem dX6_stones_19 : decode cX6_stones 19 = .ok (.getfield 42, 3) := by decide +kernel
theorem dX6_stones_22 : decode cX6_stones 22 = .ok (.iload_n 1, 1) := by decide +kernel
theorem dX6_stones_23 : decode cX6_stones 23 = .ok (.iload_n 2, 1) := by decide +kernel
theorem dX6_stones_24 : decode cX6_stones 24 = .ok (.aload_n 0, 1) := by decide +kernel
theorem dX6_stones_25 : decode cX6_stones 25 = .ok (.invokevirtual 169, 3) := by decide +kernel
theorem dX6_stones_28 : decode cX6_stones 28 = .ok (.invokevirtual 179, 3) := by decide +kernel
theorem dX6_stones_31 : decode cX6_stones 31 = .ok (.ireturn, 1) := by decide +kernel
theorem dX6_joined_0 : decode cX6_joined 0 = .ok (.iload_n 2, 1) := by decide +kernel
theorem dX6_joined_1 : decode cX6_joined 1 = .ok (.ifCond .lt 8, 3) := by decide +kernel
theorem dX6_joined_4 : decode cX6_joined 4 = .ok (.iload_n 2, 1) := by decide +kernel
theorem dX6_joined_5 : decode cX6_joined 5 = .ok (.iconst 1, 1) := by decide +kernel
theorem dX6_joined_6 : decode cX6_joined 6 = .ok (.if_icmp .le 5, 3) := by decide +kernel
theorem dX6_joined_9 : decode cX6_joined 9 = .ok (.iconst (-1), 1) := by decide +kernel
theorem dX6_joined_10 : decode cX6_joined 10 = .ok (.ireturn, 1) := by decide +kernel
theorem dX6_joined_11 : decode cX6_joined 11 = .ok (.aload_n 0, 1) := by decide +kernel
theorem dX6_joined_12 : decode cX6_joined 12 = .ok (.getfield 46, 3) := by decide +kernel
theorem dX6_joined_15 : decode cX6_joined 15 = .ok (.getfield 138, 3) := by decide +kernel
theorem dX6_joined_18 : decode cX6_joined 18 = .ok (.invokestatic 161, 3) := by decide +kernel
theorem dX6_joined_21 : decode cX6_joined 21 = .ok (.bipush 10, 2) := by decide +kernel
theorem dX6_joined_23 : decode cX6_joined 23 = .ok (.if_icmp .le 6, 3) := by decide +kernel
theorem dX6_joined_26 : decode cX6_joined 26 = .ok (.bipush (-2), 2) := by decide +kernel
theorem dX6_joined_28 : decode cX6_joined 28 = .ok (.ireturn, 1) := by decide +kernel
theorem dX6_joined_29 : decode cX6_joined 29 = .ok (.aload_n 0, 1) := by decide +kernel
theorem dX6_joined_30 : decode cX6_joined 30 = .ok (.getfield 34, 3) := by decide +kernel
theorem dX6_joined_33 : decode cX6_joined 33 = .ok (.iload_n 1, 1) := by decide +kernel
theorem dX6_joined_34 : decode cX6_joined 34 = .ok (.aload_n 0, 1) := by decide +kernel
theorem dX6_joined_35 : decode cX6_joined 35 = .ok (.getfield 42, 3) := by decide +kernel
theorem dX6_joined_38 : decode cX6_joined 38 = .ok (.getfield 155, 3) := by decide +kernel
theorem dX6_joined_41 : decode cX6_joined 41 = .ok (.iand, 1) := by decide +kernel
theorem dX6_joined_42 : decode cX6_joined 42 = .ok (.aload_n 0, 1) := by decide +kernel
theorem dX6_joined_43 : decode cX6_joined 43 = .ok (.invokevirtual 169, 3) := by decide +kernel
theorem dX6_joined_46 : decode cX6_joined 46 = .ok (.aload_n 0, 1) := by decide +kernel
theorem dX6_joined_47 : decode cX6_joined 47 = .ok (.getfield 46, 3) := by decide +kernel
theorem dX6_joined_50 : decode cX6_joined 50 = .ok (.getfield 138, 3) := by decide +kernel
theorem dX6_joined_53 : decode cX6_joined 53 = .ok (.invokevirtual 182, 3) := by decide +kernel
theorem dX6_joined_56 : decode cX6_joined 56 = .ok (.istore_n 3, 1) := by decide +kernel
theorem dX6_joined_57 : decode cX6_joined 57 = .ok (.iload_n 2, 1) := by decide +kernel
theorem dX6_joined_58 : decode cX6_joined 58 = .ok (.ifCond .ne 10, 3) := by decide +kernel
theorem dX6_joined_61 : decode cX6_joined 61 = .ok (.iload_n 3, 1) := by decide +kernel
theorem dX6_joined_62 : decode cX6_joined 62 = .ok (.invokestatic 161, 3) := by decide +kernel
theorem dX6_joined_65 : decode cX6_joined 65 = .ok (.goto 4, 3) := by decide +kernel
theorem dX6_joined_68 : decode cX6_joined 68 = .ok (.iload_n 3, 1) := by decide +kernel
theorem dX6_joined_69 : decode cX6_joined 69 = .ok (.ireturn, 1) := by decide +kernel
theorem dX6_likes_0 : decode cX6_likes 0 = .ok (.aload_n 0, 1) := by decide +kernel
theorem dX6_likes_1 : decode cX6_likes 1 = .ok (.iload_n 1, 1) := by decide +kernel
theorem dX6_likes_2 : decode cX6_likes 2 = .ok (.invokevirtual 120, 3) := by decide +kernel
theorem dX6_likes_5 : decode cX6_likes 5 = .ok (.ifCond .ne 5, 3) := by decide +kernel
theorem dX6_likes_8 : decode cX6_likes 8 = .ok (.iconst (-1), 1) := by decide +kernel
theorem dX6_likes_9 : decode cX6_likes 9 = .ok (.ireturn, 1) := by decide +kernel
theorem dX6_likes_10 : decode cX6_likes 10 = .ok (.aload_n 0, 1) := by decide +kernel
theorem dX6_likes_11 : decode cX6_likes 11 = .ok (.iload_n 1, 1) := by decide +kernel
theorem dX6_likes_12 : decode cX6_likes 12 = .ok (.invokevirtual 152, 3) := by decide +kernel
theorem dX6_likes_15 : decode cX6_likes 15 = .ok (.ireturn, 1) := by decide +kernel
theorem dX6_byTurns_0 : decode cX6_byTurns 0 = .ok (.aload_n 0, 1) := by decide +kernel
theorem dX6_byTurns_1 : decode cX6_byTurns 1 = .ok (.iload_n 1, 1) := by decide +kernel
theorem dX6_byTurns_2 : decode cX6_byTurns 2 = .ok (.invokevirtual 101, 3) := by decide +kernel
theorem dX6_byTurns_5 : decode cX6_byTurns 5 = .ok (.ifCond .eq 11, 3) := by decide +kernel
theorem dX6_byTurns_8 : decode cX6_byTurns 8 = .ok (.aload_n 0, 1) := by decide +kernel
theorem dX6_byTurns_9 : decode cX6_byTurns 9 = .ok (.iload_n 2, 1) := by decide +kernel
theorem dX6_byTurns_10 : decode cX6_byTurns 10 = .ok (.invokevirtual 101, 3) := by decide +kernel
theorem dX6_byTurns_13 : decode cX6_byTurns 13 = .ok (.ifCond .ne 5, 3) := by decide +kernel
theorem dX6_byTurns_16 : decode cX6_byTurns 16 = .ok (.iconst (-1), 1) := by decide +kernel
theorem dX6_byTurns_17 : decode cX6_byTurns 17 = .ok (.ireturn, 1) := by decide +kernel
theorem dX6_byTurns_18 : decode cX6_byTurns 18 = .ok (.aload_n 0, 1) := by decide +kernel
theorem dX6_byTurns_19 : decode cX6_byTurns 19 = .ok (.getfield 46, 3) := by decide +kernel
theorem dX6_byTurns_22 : decode cX6_byTurns 22 = .ok (.getfield 138, 3) := by decide +kernel
theorem dX6_byTurns_25 : decode cX6_byTurns 25 = .ok (.invokestatic 161, 3) := by decide +kernel
theorem dX6_byTurns_28 : decode cX6_byTurns 28 = .ok (.bipush 8, 2) := by decide +kernel
theorem dX6_byTurns_30 : decode cX6_byTurns 30 = .ok (.if_icmp .le 6, 3) := by decide +kernel
theorem dX6_byTurns_33 : decode cX6_byTurns 33 = .ok (.bipush (-2), 2) := by decide +kernel
theorem dX6_byTurns_35 : decode cX6_byTurns 35 = .ok (.ireturn, 1) := by decide +kernel
theorem dX6_byTurns_36 : decode cX6_byTurns 36 = .ok (.aload_n 0, 1) := by decide +kernel
theorem dX6_byTurns_37 : decode cX6_byTurns 37 = .ok (.getfield 34, 3) := by decide +kernel
theorem dX6_byTurns_40 : decode cX6_byTurns 40 = .ok (.iload_n 1, 1) := by decide +kernel
theorem dX6_byTurns_41 : decode cX6_byTurns 41 = .ok (.iload_n 2, 1) := by decide +kernel
theorem dX6_byTurns_42 : decode cX6_byTurns 42 = .ok (.aload_n 0, 1) := by decide +kernel
theorem dX6_byTurns_43 : decode cX6_byTurns 43 = .ok (.invokevirtual 169, 3) := by decide +kernel
theorem dX6_byTurns_46 : decode cX6_byTurns 46 = .ok (.aload_n 0, 1) := by decide +kernel
theorem dX6_byTurns_47 : decode cX6_byTurns 47 = .ok (.getfield 46, 3) := by decide +kernel
theorem dX6_byTurns_50 : decode cX6_byTurns 50 = .ok (.getfield 138, 3) := by decide +kernel
theorem dX6_byTurns_53 : decode cX6_byTurns 53 = .ok (.invokevirtual 185, 3) := by decide +kernel
theorem dX6_byTurns_56 : decode cX6_byTurns 56 = .ok (.ireturn, 1) := by decide +kernel
theorem dX6_apart_0 : decode cX6_apart 0 = .ok (.aload_n 0, 1) := by decide +kernel
theorem dX6_apart_1 : decode cX6_apart 1 = .ok (.iload_n 1, 1) := by decide +kernel
theorem dX6_apart_2 : decode cX6_apart 2 = .ok (.invokevirtual 101, 3) := by decide +kernel
theorem dX6_apart_5 : decode cX6_apart 5 = .ok (.ifCond .eq 16, 3) := by decide +kernel
theorem dX6_apart_8 : decode cX6_apart 8 = .ok (.aload_n 0, 1) := by decide +kernel
theorem dX6_apart_9 : decode cX6_apart 9 = .ok (.iload_n 2, 1) := by decide +kernel
theorem dX6_apart_10 : decode cX6_apart 10 = .ok (.invokevirtual 101, 3) := by decide +kernel
theorem dX6_apart_13 : decode cX6_apart 13 = .ok (.ifCond .eq 8, 3) := by decide +kernel
theorem dX6_apart_16 : decode cX6_apart 16 = .ok (.iload_n 1, 1) := by decide +kernel
theorem dX6_apart_17 : decode cX6_apart 17 = .ok (.iload_n 2, 1) := by decide +kernel
theorem dX6_apart_18 : decode cX6_apart 18 = .ok (.if_icmp .ne 5, 3) := by decide +kernel
theorem dX6_apart_21 : decode cX6_apart 21 = .ok (.iconst (-1), 1) := by decide +kernel
theorem dX6_apart_22 : decode cX6_apart 22 = .ok (.ireturn, 1) := by decide +kernel
theorem dX6_apart_23 : decode cX6_apart 23 = .ok (.aload_n 0, 1) := by decide +kernel
theorem dX6_apart_24 : decode cX6_apart 24 = .ok (.invokevirtual 169, 3) := by decide +kernel
theorem dX6_apart_27 : decode cX6_apart 27 = .ok (.iconst 1, 1) := by decide +kernel
theorem dX6_apart_28 : decode cX6_apart 28 = .ok (.iload_n 1, 1) := by decide +kernel
theorem dX6_apart_29 : decode cX6_apart 29 = .ok (.ishl, 1) := by decide +kernel
theorem dX6_apart_30 : decode cX6_apart 30 = .ok (.iconst (-1), 1) := by decide +kernel
theorem dX6_apart_31 : decode cX6_apart 31 = .ok (.ixor, 1) := by decide +kernel
theorem dX6_apart_32 : decode cX6_apart 32 = .ok (.iand, 1) := by decide +kernel
theorem dX6_apart_33 : decode cX6_apart 33 = .ok (.iconst 1, 1) := by decide +kernel
theorem dX6_apart_34 : decode cX6_apart 34 = .ok (.iload_n 2, 1) := by decide +kernel
theorem dX6_apart_35 : decode cX6_apart 35 = .ok (.ishl, 1) := by decide +kernel
theorem dX6_apart_36 : decode cX6_apart 36 = .ok (.iconst (-1), 1) := by decide +kernel
theorem dX6_apart_37 : decode cX6_apart 37 = .ok (.ixor, 1) := by decide +kernel
theorem dX6_apart_38 : decode cX6_apart 38 = .ok (.iand, 1) := by decide +kernel
theorem dX6_apart_39 : decode cX6_apart 39 = .ok (.istore_n 3, 1) := by decide +kernel
theorem dX6_apart_40 : decode cX6_apart 40 = .ok (.iload_n 3, 1) := by decide +kernel
theorem dX6_apart_41 : decode cX6_apart 41 = .ok (.invokestatic 161, 3) := by decide +kernel
theorem dX6_apart_44 : decode cX6_apart 44 = .ok (.bipush 12, 2) := by decide +kernel
theorem dX6_apart_46 : decode cX6_apart 46 = .ok (.if_icmp .le 6, 3) := by decide +kernel
theorem dX6_apart_49 : decode cX6_apart 49 = .ok (.bipush (-2), 2) := by decide +kernel
theorem dX6_apart_51 : decode cX6_apart 51 = .ok (.ireturn, 1) := by decide +kernel
theorem dX6_apart_52 : decode cX6_apart 52 = .ok (.aload_n 0, 1) := by decide +kernel
theorem dX6_apart_53 : decode cX6_apart 53 = .ok (.invokevirtual 169, 3) := by decide +kernel
theorem dX6_apart_56 : decode cX6_apart 56 = .ok (.iload_n 1, 1) := by decide +kernel
theorem dX6_apart_57 : decode cX6_apart 57 = .ok (.invokestatic 141, 3) := by decide +kernel
theorem dX6_apart_60 : decode cX6_apart 60 = .ok (.ifCond .eq 31, 3) := by decide +kernel
theorem dX6_apart_63 : decode cX6_apart 63 = .ok (.aload_n 0, 1) := by decide +kernel
theorem dX6_apart_64 : decode cX6_apart 64 = .ok (.invokevirtual 169, 3) := by decide +kernel
theorem dX6_apart_67 : decode cX6_apart 67 = .ok (.iload_n 2, 1) := by decide +kernel
theorem dX6_apart_68 : decode cX6_apart 68 = .ok (.invokestatic 141, 3) := by decide +kernel
theorem dX6_apart_71 : decode cX6_apart 71 = .ok (.ifCond .eq 20, 3) := by decide +kernel
theorem dX6_apart_74 : decode cX6_apart 74 = .ok (.aload_n 0, 1) := by decide +kernel
theorem dX6_apart_75 : decode cX6_apart 75 = .ok (.getfield 42, 3) := by decide +kernel
theorem dX6_apart_78 : decode cX6_apart 78 = .ok (.iconst 1, 1) := by decide +kernel
theorem dX6_apart_79 : decode cX6_apart 79 = .ok (.iload_n 1, 1) := by decide +kernel
theorem dX6_apart_80 : decode cX6_apart 80 = .ok (.ishl, 1) := by decide +kernel
theorem dX6_apart_81 : decode cX6_apart 81 = .ok (.invokevirtual 189, 3) := by decide +kernel
theorem dX6_apart_84 : decode cX6_apart 84 = .ok (.iload_n 2, 1) := by decide +kernel
theorem dX6_apart_85 : decode cX6_apart 85 = .ok (.invokestatic 141, 3) := by decide +kernel
theorem dX6_apart_88 : decode cX6_apart 88 = .ok (.ifCond .eq 6, 3) := by decide +kernel
theorem dX6_apart_91 : decode cX6_apart 91 = .ok (.bipush (-9), 2) := by decide +kernel
theorem dX6_apart_93 : decode cX6_apart 93 = .ok (.ireturn, 1) := by decide +kernel
theorem dX6_apart_94 : decode cX6_apart 94 = .ok (.aload_n 0, 1) := by decide +kernel
theorem dX6_apart_95 : decode cX6_apart 95 = .ok (.getfield 34, 3) := by decide +kernel
theorem dX6_apart_98 : decode cX6_apart 98 = .ok (.iload_n 1, 1) := by decide +kernel
theorem dX6_apart_99 : decode cX6_apart 99 = .ok (.iload_n 2, 1) := by decide +kernel
theorem dX6_apart_100 : decode cX6_apart 100 = .ok (.iload_n 3, 1) := by decide +kernel
theorem dX6_apart_101 : decode cX6_apart 101 = .ok (.invokevirtual 192, 3) := by decide +kernel
theorem dX6_apart_104 : decode cX6_apart 104 = .ok (.ireturn, 1) := by decide +kernel
theorem dX6_rate_0 : decode cX6_rate 0 = .ok (.aload_n 0, 1) := by decide +kernel
theorem dX6_rate_1 : decode cX6_rate 1 = .ok (.iload_n 2, 1) := by decide +kernel
theorem dX6_rate_2 : decode cX6_rate 2 = .ok (.invokevirtual 120, 3) := by decide +kernel
theorem dX6_rate_5 : decode cX6_rate 5 = .ok (.ifCond .ne 6, 3) := by decide +kernel
theorem dX6_rate_8 : decode cX6_rate 8 = .ok (.ldc 195, 2) := by decide +kernel
theorem dX6_rate_10 : decode cX6_rate 10 = .ok (.ireturn, 1) := by decide +kernel
theorem dX6_rate_11 : decode cX6_rate 11 = .ok (.iload_n 1, 1) := by decide +kernel
theorem dX6_rate_12 : decode cX6_rate 12 = .ok (.tableswitch 76 0 5 #[40, 46, 52, 58, 64, 70], 40) := by decide +kernel
theorem dX6_rate_52 : decode cX6_rate 52 = .ok (.aload_n 0, 1) := by decide +kernel
theorem dX6_rate_53 : decode cX6_rate 53 = .ok (.iload_n 2, 1) := by decide +kernel
theorem dX6_rate_54 : decode cX6_rate 54 = .ok (.invokevirtual 196, 3) := by decide +kernel
theorem dX6_rate_57 : decode cX6_rate 57 = .ok (.ireturn, 1) := by decide +kernel
theorem dX6_rate_58 : decode cX6_rate 58 = .ok (.aload_n 0, 1) := by decide +kernel
theorem dX6_rate_59 : decode cX6_rate 59 = .ok (.iload_n 2, 1) := by decide +kernel
theorem dX6_rate_60 : decode cX6_rate 60 = .ok (.invokevirtual 199, 3) := by decide +kernel
theorem dX6_rate_63 : decode cX6_rate 63 = .ok (.ireturn, 1) := by decide +kernel
theorem dX6_rate_64 : decode cX6_rate 64 = .ok (.aload_n 0, 1) := by decide +kernel
theorem dX6_rate_65 : decode cX6_rate 65 = .ok (.iload_n 2, 1) := by decide +kernel
theorem dX6_rate_66 : decode cX6_rate 66 = .ok (.invokevirtual 202, 3) := by decide +kernel
theorem dX6_rate_69 : decode cX6_rate 69 = .ok (.ireturn, 1) := by decide +kernel
theorem dX6_rate_70 : decode cX6_rate 70 = .ok (.aload_n 0, 1) := by decide +kernel
theorem dX6_rate_71 : decode cX6_rate 71 = .ok (.iload_n 2, 1) := by decide +kernel
theorem dX6_rate_72 : decode cX6_rate 72 = .ok (.invokevirtual 205, 3) := by decide +kernel
theorem dX6_rate_75 : decode cX6_rate 75 = .ok (.ireturn, 1) := by decide +kernel
theorem dX6_rate_76 : decode cX6_rate 76 = .ok (.aload_n 0, 1) := by decide +kernel
theorem dX6_rate_77 : decode cX6_rate 77 = .ok (.iload_n 2, 1) := by decide +kernel
theorem dX6_rate_78 : decode cX6_rate 78 = .ok (.invokevirtual 208, 3) := by decide +kernel
theorem dX6_rate_81 : decode cX6_rate 81 = .ok (.ireturn, 1) := by decide +kernel
theorem dX6_rate_82 : decode cX6_rate 82 = .ok (.aload_n 0, 1) := by decide +kernel
theorem dX6_rate_83 : decode cX6_rate 83 = .ok (.iload_n 2, 1) := by decide +kernel
theorem dX6_rate_84 : decode cX6_rate 84 = .ok (.invokevirtual 211, 3) := by decide +kernel
theorem dX6_rate_87 : decode cX6_rate 87 = .ok (.ireturn, 1) := by decide +kernel
theorem dX6_rate_88 : decode cX6_rate 88 = .ok (.ldc 195, 2) := by decide +kernel
theorem dX6_rate_90 : decode cX6_rate 90 = .ok (.ireturn, 1) := by decide +kernel
theorem dX6_keep_0 : decode cX6_keep 0 = .ok (.iload_n 1, 1) := by decide +kernel
theorem dX6_keep_1 : decode cX6_keep 1 = .ok (.ifCond .lt 8, 3) := by decide +kernel
theorem dX6_keep_4 : decode cX6_keep 4 = .ok (.iload_n 1, 1) := by decide +kernel
theorem dX6_keep_5 : decode cX6_keep 5 = .ok (.iconst 1, 1) := by decide +kernel
theorem dX6_keep_6 : decode cX6_keep 6 = .ok (.if_icmp .le 5, 3) := by decide +kernel
theorem dX6_keep_9 : decode cX6_keep 9 = .ok (.iconst (-1), 1) := by decide +kernel
theorem dX6_keep_10 : decode cX6_keep 10 = .ok (.ireturn, 1) := by decide +kernel
theorem dX6_keep_11 : decode cX6_keep 11 = .ok (.aload_n 0, 1) := by decide +kernel
theorem dX6_keep_12 : decode cX6_keep 12 = .ok (.iload_n 1, 1) := by decide +kernel
theorem dX6_keep_13 : decode cX6_keep 13 = .ok (.invokevirtual 214, 3) := by decide +kernel
theorem dX6_keep_16 : decode cX6_keep 16 = .ok (.astore_n 2, 1) := by decide +kernel
theorem dX6_keep_17 : decode cX6_keep 17 = .ok (.aload_n 2, 1) := by decide +kernel
theorem dX6_keep_18 : decode cX6_keep 18 = .ok (.aload_n 0, 1) := by decide +kernel
theorem dX6_keep_19 : decode cX6_keep 19 = .ok (.getfield 46, 3) := by decide +kernel
theorem dX6_keep_22 : decode cX6_keep 22 = .ok (.invokevirtual 218, 3) := by decide +kernel
theorem dX6_keep_25 : decode cX6_keep 25 = .ok (.aload_n 2, 1) := by decide +kernel
theorem dX6_keep_26 : decode cX6_keep 26 = .ok (.iconst 1, 1) := by decide +kernel
theorem dX6_keep_27 : decode cX6_keep 27 = .ok (.putfield 97, 3) := by decide +kernel
theorem dX6_keep_30 : decode cX6_keep 30 = .ok (.aload_n 0, 1) := by decide +kernel
theorem dX6_keep_31 : decode cX6_keep 31 = .ok (.getfield 46, 3) := by decide +kernel
theorem dX6_keep_34 : decode cX6_keep 34 = .ok (.getfield 158, 3) := by decide +kernel
theorem dX6_keep_37 : decode cX6_keep 37 = .ok (.invokestatic 161, 3) := by decide +kernel
theorem dX6_keep_40 : decode cX6_keep 40 = .ok (.ireturn, 1) := by decide +kernel
theorem dX6_back_0 : decode cX6_back 0 = .ok (.iload_n 1, 1) := by decide +kernel
theorem dX6_back_1 : decode cX6_back 1 = .ok (.ifCond .lt 8, 3) := by decide +kernel
theorem dX6_back_4 : decode cX6_back 4 = .ok (.iload_n 1, 1) := by decide +kernel
theorem dX6_back_5 : decode cX6_back 5 = .ok (.iconst 1, 1) := by decide +kernel
theorem dX6_back_6 : decode cX6_back 6 = .ok (.if_icmp .le 5, 3) := by decide +kernel
theorem dX6_back_9 : decode cX6_back 9 = .ok (.iconst (-1), 1) := by decide +kernel
theorem dX6_back_10 : decode cX6_back 10 = .ok (.ireturn, 1) := by decide +kernel
theorem dX6_back_11 : decode cX6_back 11 = .ok (.aload_n 0, 1) := by decide +kernel
theorem dX6_back_12 : decode cX6_back 12 = .ok (.iload_n 1, 1) := by decide +kernel
theorem dX6_back_13 : decode cX6_back 13 = .ok (.invokevirtual 214, 3) := by decide +kernel
theorem dX6_back_16 : decode cX6_back 16 = .ok (.astore_n 2, 1) := by decide +kernel
theorem dX6_back_17 : decode cX6_back 17 = .ok (.aload_n 2, 1) := by decide +kernel
theorem dX6_back_18 : decode cX6_back 18 = .ok (.getfield 97, 3) := by decide +kernel
theorem dX6_back_21 : decode cX6_back 21 = .ok (.ifCond .ne 6, 3) := by decide +kernel
theorem dX6_back_24 : decode cX6_back 24 = .ok (.bipush (-2), 2) := by decide +kernel
theorem dX6_back_26 : decode cX6_back 26 = .ok (.ireturn, 1) := by decide +kernel
theorem dX6_back_27 : decode cX6_back 27 = .ok (.aload_n 0, 1) := by decide +kernel
theorem dX6_back_28 : decode cX6_back 28 = .ok (.getfield 46, 3) := by decide +kernel
theorem dX6_back_31 : decode cX6_back 31 = .ok (.aload_n 2, 1) := by decide +kernel
theorem dX6_back_32 : decode cX6_back 32 = .ok (.invokevirtual 218, 3) := by decide +kernel
theorem dX6_back_35 : decode cX6_back 35 = .ok (.aload_n 0, 1) := by decide +kernel
theorem dX6_back_36 : decode cX6_back 36 = .ok (.getfield 46, 3) := by decide +kernel
theorem dX6_back_39 : decode cX6_back 39 = .ok (.getfield 158, 3) := by decide +kernel
theorem dX6_back_42 : decode cX6_back 42 = .ok (.invokestatic 161, 3) := by decide +kernel
theorem dX6_back_45 : decode cX6_back 45 = .ok (.ireturn, 1) := by decide +kernel
theorem dX6_count_0 : decode cX6_count 0 = .ok (.iload_n 1, 1) := by decide +kernel
theorem dX6_count_1 : decode cX6_count 1 = .ok (.tableswitch 75 0 4 #[35, 43, 51, 59, 67], 35) := by decide +kernel
theorem dX6_count_36 : decode cX6_count 36 = .ok (.aload_n 0, 1) := by decide +kernel
theorem dX6_count_37 : decode cX6_count 37 = .ok (.getfield 24, 3) := by decide +kernel
theorem dX6_count_40 : decode cX6_count 40 = .ok (.getfield 82, 3) := by decide +kernel
theorem dX6_count_43 : decode cX6_count 43 = .ok (.ireturn, 1) := by decide +kernel
theorem dX6_count_44 : decode cX6_count 44 = .ok (.aload_n 0, 1) := by decide +kernel
theorem dX6_count_45 : decode cX6_count 45 = .ok (.getfield 24, 3) := by decide +kernel
theorem dX6_count_48 : decode cX6_count 48 = .ok (.getfield 85, 3) := by decide +kernel
theorem dX6_count_51 : decode cX6_count 51 = .ok (.ireturn, 1) := by decide +kernel
theorem dX6_count_52 : decode cX6_count 52 = .ok (.aload_n 0, 1) := by decide +kernel
theorem dX6_count_53 : decode cX6_count 53 = .ok (.getfield 24, 3) := by decide +kernel
theorem dX6_count_56 : decode cX6_count 56 = .ok (.getfield 149, 3) := by decide +kernel
theorem dX6_count_59 : decode cX6_count 59 = .ok (.ireturn, 1) := by decide +kernel
theorem dX6_count_60 : decode cX6_count 60 = .ok (.aload_n 0, 1) := by decide +kernel
theorem dX6_count_61 : decode cX6_count 61 = .ok (.getfield 24, 3) := by decide +kernel
theorem dX6_count_64 : decode cX6_count 64 = .ok (.getfield 221, 3) := by decide +kernel
theorem dX6_count_67 : decode cX6_count 67 = .ok (.ireturn, 1) := by decide +kernel
theorem dX6_count_68 : decode cX6_count 68 = .ok (.aload_n 0, 1) := by decide +kernel
theorem dX6_count_69 : decode cX6_count 69 = .ok (.getfield 20, 3) := by decide +kernel
theorem dX6_count_72 : decode cX6_count 72 = .ok (.getfield 60, 3) := by decide +kernel
theorem dX6_count_75 : decode cX6_count 75 = .ok (.ireturn, 1) := by decide +kernel
theorem dX6_count_76 : decode cX6_count 76 = .ok (.iconst (-1), 1) := by decide +kernel
theorem dX6_count_77 : decode cX6_count 77 = .ok (.ireturn, 1) := by decide +kernel
theorem dX6_trace_0 : decode cX6_trace 0 = .ok (.aload_n 0, 1) := by decide +kernel
theorem dX6_trace_1 : decode cX6_trace 1 = .ok (.getfield 56, 3) := by decide +kernel
theorem dX6_trace_4 : decode cX6_trace 4 = .ok (.lreturn, 1) := by decide +kernel
theorem dX6_isCell_0 : decode cX6_isCell 0 = .ok (.iload_n 1, 1) := by decide +kernel
theorem dX6_isCell_1 : decode cX6_isCell 1 = .ok (.ifCond .lt 18, 3) := by decide +kernel
theorem dX6_isCell_4 : decode cX6_isCell 4 = .ok (.iload_n 1, 1) := by decide +kernel
theorem dX6_isCell_5 : decode cX6_isCell 5 = .ok (.aload_n 0, 1) := by decide +kernel
theorem dX6_isCell_6 : decode cX6_isCell 6 = .ok (.getfield 24, 3) := by decide +kernel
theorem dX6_isCell_9 : decode cX6_isCell 9 = .ok (.getfield 224, 3) := by decide +kernel
theorem dX6_isCell_12 : decode cX6_isCell 12 = .ok (.if_icmp .ge 7, 3) := by decide +kernel
theorem dX6_isCell_15 : decode cX6_isCell 15 = .ok (.iconst 1, 1) := by decide +kernel
theorem dX6_isCell_16 : decode cX6_isCell 16 = .ok (.goto 4, 3) := by decide +kernel
theorem dX6_isCell_19 : decode cX6_isCell 19 = .ok (.iconst 0, 1) := by decide +kernel
theorem dX6_isCell_20 : decode cX6_isCell 20 = .ok (.ireturn, 1) := by decide +kernel
theorem dX6_isWalker_0 : decode cX6_isWalker 0 = .ok (.iload_n 1, 1) := by decide +kernel
theorem dX6_isWalker_1 : decode cX6_isWalker 1 = .ok (.ifCond .lt 18, 3) := by decide +kernel
theorem dX6_isWalker_4 : decode cX6_isWalker 4 = .ok (.iload_n 1, 1) := by decide +kernel
theorem dX6_isWalker_5 : decode cX6_isWalker 5 = .ok (.aload_n 0, 1) := by decide +kernel
theorem dX6_isWalker_6 : decode cX6_isWalker 6 = .ok (.getfield 24, 3) := by decide +kernel
theorem dX6_isWalker_9 : decode cX6_isWalker 9 = .ok (.getfield 149, 3) := by decide +kernel
theorem dX6_isWalker_12 : decode cX6_isWalker 12 = .ok (.if_icmp .ge 7, 3) := by decide +kernel
theorem dX6_isWalker_15 : decode cX6_isWalker 15 = .ok (.iconst 1, 1) := by decide +kernel
theorem dX6_isWalker_16 : decode cX6_isWalker 16 = .ok (.goto 4, 3) := by decide +kernel
theorem dX6_isWalker_19 : decode cX6_isWalker 19 = .ok (.iconst 0, 1) := by decide +kernel
theorem dX6_isWalker_20 : decode cX6_isWalker 20 = .ok (.ireturn, 1) := by decide +kernel
theorem dX6_imageOf_0 : decode cX6_imageOf 0 = .ok (.iload_n 1, 1) := by decide +kernel
theorem dX6_imageOf_1 : decode cX6_imageOf 1 = .ok (.ifCond .ne 10, 3) := by decide +kernel
theorem dX6_imageOf_4 : decode cX6_imageOf 4 = .ok (.aload_n 0, 1) := by decide +kernel
theorem dX6_imageOf_5 : decode cX6_imageOf 5 = .ok (.getfield 50, 3) := by decide +kernel
theorem dX6_imageOf_8 : decode cX6_imageOf 8 = .ok (.goto 7, 3) := by decide +kernel
theorem dX6_imageOf_11 : decode cX6_imageOf 11 = .ok (.aload_n 0, 1) := by decide +kernel
theorem dX6_imageOf_12 : decode cX6_imageOf 12 = .ok (.getfield 53, 3) := by decide +kernel
theorem dX6_imageOf_15 : decode cX6_imageOf 15 = .ok (.areturn, 1) := by decide +kernel
theorem dX6_bearing_0 : decode cX6_bearing 0 = .ok (.aload_n 0, 1) := by decide +kernel
theorem dX6_bearing_1 : decode cX6_bearing 1 = .ok (.getfield 42, 3) := by decide +kernel
theorem dX6_bearing_4 : decode cX6_bearing 4 = .ok (.getfield 155, 3) := by decide +kernel
theorem dX6_bearing_7 : decode cX6_bearing 7 = .ok (.aload_n 0, 1) := by decide +kernel
theorem dX6_bearing_8 : decode cX6_bearing 8 = .ok (.getfield 46, 3) := by decide +kernel
theorem dX6_bearing_11 : decode cX6_bearing 11 = .ok (.getfield 138, 3) := by decide +kernel
theorem dX6_bearing_14 : decode cX6_bearing 14 = .ok (.iconst (-1), 1) := by decide +kernel
theorem dX6_bearing_15 : decode cX6_bearing 15 = .ok (.ixor, 1) := by decide +kernel
theorem dX6_bearing_16 : decode cX6_bearing 16 = .ok (.iand, 1) := by decide +kernel
theorem dX6_bearing_17 : decode cX6_bearing 17 = .ok (.ireturn, 1) := by decide +kernel
theorem dX6_stepsOf_0 : decode cX6_stepsOf 0 = .ok (.aload_n 0, 1) := by decide +kernel
theorem dX6_stepsOf_1 : decode cX6_stepsOf 1 = .ok (.getfield 42, 3) := by decide +kernel
theorem dX6_stepsOf_4 : decode cX6_stepsOf 4 = .ok (.aload_n 0, 1) := by decide +kernel
theorem dX6_stepsOf_5 : decode cX6_stepsOf 5 = .ok (.getfield 24, 3) := by decide +kernel
theorem dX6_stepsOf_8 : decode cX6_stepsOf 8 = .ok (.getfield 123, 3) := by decide +kernel
theorem dX6_stepsOf_11 : decode cX6_stepsOf 11 = .ok (.iload_n 1, 1) := by decide +kernel
theorem dX6_stepsOf_12 : decode cX6_stepsOf 12 = .ok (.invokestatic 113, 3) := by decide +kernel
theorem dX6_stepsOf_15 : decode cX6_stepsOf 15 = .ok (.aload_n 0, 1) := by decide +kernel
theorem dX6_stepsOf_16 : decode cX6_stepsOf 16 = .ok (.getfield 24, 3) := by decide +kernel
theorem dX6_stepsOf_19 : decode cX6_stepsOf 19 = .ok (.getfield 126, 3) := by decide +kernel
theorem dX6_stepsOf_22 : decode cX6_stepsOf 22 = .ok (.iload_n 1, 1) := by decide +kernel
theorem dX6_stepsOf_23 : decode cX6_stepsOf 23 = .ok (.invokestatic 113, 3) := by decide +kernel
theorem dX6_stepsOf_26 : decode cX6_stepsOf 26 = .ok (.aload_n 0, 1) := by decide +kernel
theorem dX6_stepsOf_27 : decode cX6_stepsOf 27 = .ok (.invokevirtual 169, 3) := by decide +kernel
theorem dX6_stepsOf_30 : decode cX6_stepsOf 30 = .ok (.invokevirtual 172, 3) := by decide +kernel
theorem dX6_stepsOf_33 : decode cX6_stepsOf 33 = .ok (.ireturn, 1) := by decide +kernel
theorem dX6_likedBy_0 : decode cX6_likedBy 0 = .ok (.aload_n 0, 1) := by decide +kernel
theorem dX6_likedBy_1 : decode cX6_likedBy 1 = .ok (.getfield 34, 3) := by decide +kernel
theorem dX6_likedBy_4 : decode cX6_likedBy 4 = .ok (.aload_n 0, 1) := by decide +kernel
theorem dX6_likedBy_5 : decode cX6_likedBy 5 = .ok (.getfield 24, 3) := by decide +kernel
theorem dX6_likedBy_8 : decode cX6_likedBy 8 = .ok (.getfield 123, 3) := by decide +kernel
theorem dX6_likedBy_11 : decode cX6_likedBy 11 = .ok (.iload_n 1, 1) := by decide +kernel
theorem dX6_likedBy_12 : decode cX6_likedBy 12 = .ok (.invokestatic 113, 3) := by decide +kernel
theorem dX6_likedBy_15 : decode cX6_likedBy 15 = .ok (.aload_n 0, 1) := by decide +kernel
theorem dX6_likedBy_16 : decode cX6_likedBy 16 = .ok (.getfield 24, 3) := by decide +kernel
theorem dX6_likedBy_19 : decode cX6_likedBy 19 = .ok (.getfield 126, 3) := by decide +kernel
theorem dX6_likedBy_22 : decode cX6_likedBy 22 = .ok (.iload_n 1, 1) := by decide +kernel
theorem dX6_likedBy_23 : decode cX6_likedBy 23 = .ok (.invokestatic 113, 3) := by decide +kernel
theorem dX6_likedBy_26 : decode cX6_likedBy 26 = .ok (.aload_n 0, 1) := by decide +kernel
theorem dX6_likedBy_27 : decode cX6_likedBy 27 = .ok (.invokevirtual 169, 3) := by decide +kernel
theorem dX6_likedBy_30 : decode cX6_likedBy 30 = .ok (.aload_n 0, 1) := by decide +kernel
theorem dX6_likedBy_31 : decode cX6_likedBy 31 = .ok (.getfield 46, 3) := by decide +kernel
theorem dX6_likedBy_34 : decode cX6_likedBy 34 = .ok (.getfield 138, 3) := by decide +kernel
theorem dX6_likedBy_37 : decode cX6_likedBy 37 = .ok (.invokevirtual 227, 3) := by decide +kernel
theorem dX6_likedBy_40 : decode cX6_likedBy 40 = .ok (.ireturn, 1) := by decide +kernel
theorem dX6_goAndLay_0 : decode cX6_goAndLay 0 = .ok (.aload_n 0, 1) := by decide +kernel
theorem dX6_goAndLay_1 : decode cX6_goAndLay 1 = .ok (.invokevirtual 169, 3) := by decide +kernel
theorem dX6_goAndLay_4 : decode cX6_goAndLay 4 = .ok (.istore_n 3, 1) := by decide +kernel
theorem dX6_goAndLay_5 : decode cX6_goAndLay 5 = .ok (.aload_n 0, 1) := by decide +kernel
theorem dX6_goAndLay_6 : decode cX6_goAndLay 6 = .ok (.getfield 24, 3) := by decide +kernel
theorem dX6_goAndLay_9 : decode cX6_goAndLay 9 = .ok (.getfield 123, 3) := by decide +kernel
theorem dX6_goAndLay_12 : decode cX6_goAndLay 12 = .ok (.iload_n 1, 1) := by decide +kernel
theorem dX6_goAndLay_13 : decode cX6_goAndLay 13 = .ok (.invokestatic 113, 3) := by decide +kernel
theorem dX6_goAndLay_16 : decode cX6_goAndLay 16 = .ok (.istore 4, 2) := by decide +kernel
theorem dX6_goAndLay_18 : decode cX6_goAndLay 18 = .ok (.aload_n 0, 1) := by decide +kernel
theorem dX6_goAndLay_19 : decode cX6_goAndLay 19 = .ok (.getfield 24, 3) := by decide +kernel
theorem dX6_goAndLay_22 : decode cX6_goAndLay 22 = .ok (.getfield 126, 3) := by decide +kernel
theorem dX6_goAndLay_25 : decode cX6_goAndLay 25 = .ok (.iload_n 1, 1) := by decide +kernel
theorem dX6_goAndLay_26 : decode cX6_goAndLay 26 = .ok (.invokestatic 113, 3) := by decide +kernel
theorem dX6_goAndLay_29 : decode cX6_goAndLay 29 = .ok (.istore 5, 2) := by decide +kernel
theorem dX6_goAndLay_31 : decode cX6_goAndLay 31 = .ok (.aload_n 0, 1) := by decide +kernel
theorem dX6_goAndLay_32 : decode cX6_goAndLay 32 = .ok (.getfield 42, 3) := by decide +kernel
theorem dX6_goAndLay_35 : decode cX6_goAndLay 35 = .ok (.iload 4, 2) := by decide +kernel
theorem dX6_goAndLay_37 : decode cX6_goAndLay 37 = .ok (.iload 5, 2) := by decide +kernel
theorem dX6_goAndLay_39 : decode cX6_goAndLay 39 = .ok (.iload_n 3, 1) := by decide +kernel
theorem dX6_goAndLay_40 : decode cX6_goAndLay 40 = .ok (.invokevirtual 172, 3) := by decide +kernel
theorem dX6_goAndLay_43 : decode cX6_goAndLay 43 = .ok (.istore 6, 2) := by decide +kernel
theorem dX6_goAndLay_45 : decode cX6_goAndLay 45 = .ok (.iconst 0, 1) := by decide +kernel
theorem dX6_goAndLay_46 : decode cX6_goAndLay 46 = .ok (.istore 7, 2) := by decide +kernel
theorem dX6_goAndLay_48 : decode cX6_goAndLay 48 = .ok (.iload 7, 2) := by decide +kernel
theorem dX6_goAndLay_50 : decode cX6_goAndLay 50 = .ok (.iload 6, 2) := by decide +kernel
theorem dX6_goAndLay_52 : decode cX6_goAndLay 52 = .ok (.if_icmp .ge 32, 3) := by decide +kernel
theorem dX6_goAndLay_55 : decode cX6_goAndLay 55 = .ok (.aload_n 0, 1) := by decide +kernel
theorem dX6_goAndLay_56 : decode cX6_goAndLay 56 = .ok (.getfield 42, 3) := by decide +kernel
theorem dX6_goAndLay_59 : decode cX6_goAndLay 59 = .ok (.iload 4, 2) := by decide +kernel
theorem dX6_goAndLay_61 : decode cX6_goAndLay 61 = .ok (.iload 5, 2) := by decide +kernel
theorem dX6_goAndLay_63 : decode cX6_goAndLay 63 = .ok (.iload_n 3, 1) := by decide +kernel
theorem dX6_goAndLay_64 : decode cX6_goAndLay 64 = .ok (.invokevirtual 176, 3) := by decide +kernel
theorem dX6_goAndLay_67 : decode cX6_goAndLay 67 = .ok (.istore 4, 2) := by decide +kernel
theorem dX6_goAndLay_69 : decode cX6_goAndLay 69 = .ok (.aload_n 0, 1) := by decide +kernel
theorem dX6_goAndLay_70 : decode cX6_goAndLay 70 = .ok (.getfield 46, 3) := by decide +kernel
theorem dX6_goAndLay_73 : decode cX6_goAndLay 73 = .ok (.iload 4, 2) := by decide +kernel
theorem dX6_goAndLay_75 : decode cX6_goAndLay 75 = .ok (.invokevirtual 230, 3) := by decide +kernel
theorem dX6_goAndLay_78 : decode cX6_goAndLay 78 = .ok (.iinc 7 1, 3) := by decide +kernel
theorem dX6_goAndLay_81 : decode cX6_goAndLay 81 = .ok (.goto (-33), 3) := by decide +kernel
theorem dX6_goAndLay_84 : decode cX6_goAndLay 84 = .ok (.aload_n 0, 1) := by decide +kernel
theorem dX6_goAndLay_85 : decode cX6_goAndLay 85 = .ok (.getfield 46, 3) := by decide +kernel
theorem dX6_goAndLay_88 : decode cX6_goAndLay 88 = .ok (.iload_n 1, 1) := by decide +kernel
theorem dX6_goAndLay_89 : decode cX6_goAndLay 89 = .ok (.iload_n 2, 1) := by decide +kernel
theorem dX6_goAndLay_90 : decode cX6_goAndLay 90 = .ok (.aload_n 0, 1) := by decide +kernel
theorem dX6_goAndLay_91 : decode cX6_goAndLay 91 = .ok (.getfield 24, 3) := by decide +kernel
theorem dX6_goAndLay_94 : decode cX6_goAndLay 94 = .ok (.getfield 221, 3) := by decide +kernel
theorem dX6_goAndLay_97 : decode cX6_goAndLay 97 = .ok (.invokevirtual 233, 3) := by decide +kernel
theorem dX6_goAndLay_100 : decode cX6_goAndLay 100 = .ok (.iload 6, 2) := by decide +kernel
theorem dX6_goAndLay_102 : decode cX6_goAndLay 102 = .ok (.ireturn, 1) := by decide +kernel
theorem dX6_rateWalker_0 : decode cX6_rateWalker 0 = .ok (.aload_n 0, 1) := by decide +kernel
theorem dX6_rateWalker_1 : decode cX6_rateWalker 1 = .ok (.dup, 1) := by decide +kernel
theorem dX6_rateWalker_2 : decode cX6_rateWalker 2 = .ok (.getfield 56, 3) := by decide +kernel
theorem dX6_rateWalker_5 : decode cX6_rateWalker 5 = .ok (.lconst 1, 1) := by decide +kernel
theorem dX6_rateWalker_6 : decode cX6_rateWalker 6 = .ok (.ladd, 1) := by decide +kernel
theorem dX6_rateWalker_7 : decode cX6_rateWalker 7 = .ok (.putfield 56, 3) := by decide +kernel
theorem dX6_rateWalker_10 : decode cX6_rateWalker 10 = .ok (.aload_n 0, 1) := by decide +kernel
theorem dX6_rateWalker_11 : decode cX6_rateWalker 11 = .ok (.iload_n 1, 1) := by decide +kernel
theorem dX6_rateWalker_12 : decode cX6_rateWalker 12 = .ok (.invokevirtual 135, 3) := by decide +kernel
theorem dX6_rateWalker_15 : decode cX6_rateWalker 15 = .ok (.iconst 0, 1) := by decide +kernel
theorem dX6_rateWalker_16 : decode cX6_rateWalker 16 = .ok (.invokestatic 237, 3) := by decide +kernel
theorem dX6_rateWalker_19 : decode cX6_rateWalker 19 = .ok (.ireturn, 1) := by decide +kernel
theorem dX6_ratePilgrim_0 : decode cX6_ratePilgrim 0 = .ok (.aload_n 0, 1) := by decide +kernel
theorem dX6_ratePilgrim_1 : decode cX6_ratePilgrim 1 = .ok (.dup, 1) := by decide +kernel
theorem dX6_ratePilgrim_2 : decode cX6_ratePilgrim 2 = .ok (.getfield 56, 3) := by decide +kernel
theorem dX6_ratePilgrim_5 : decode cX6_ratePilgrim 5 = .ok (.ldc2_w 242, 3) := by decide +kernel
theorem dX6_ratePilgrim_8 : decode cX6_ratePilgrim 8 = .ok (.ladd, 1) := by decide +kernel
theorem dX6_ratePilgrim_9 : decode cX6_ratePilgrim 9 = .ok (.putfield 56, 3) := by decide +kernel
theorem dX6_ratePilgrim_12 : decode cX6_ratePilgrim 12 = .ok (.aload_n 0, 1) := by decide +kernel
theorem dX6_ratePilgrim_13 : decode cX6_ratePilgrim 13 = .ok (.iload_n 1, 1) := by decide +kernel
theorem dX6_ratePilgrim_14 : decode cX6_ratePilgrim 14 = .ok (.invokevirtual 196, 3) := by decide +kernel
theorem dX6_ratePilgrim_17 : decode cX6_ratePilgrim 17 = .ok (.aload_n 0, 1) := by decide +kernel
theorem dX6_ratePilgrim_18 : decode cX6_ratePilgrim 18 = .ok (.getfield 46, 3) := by decide +kernel
theorem dX6_ratePilgrim_21 : decode cX6_ratePilgrim 21 = .ok (.getfield 129, 3) := by decide +kernel
theorem dX6_ratePilgrim_24 : decode cX6_ratePilgrim 24 = .ok (.iload_n 1, 1) := by decide +kernel
theorem dX6_ratePilgrim_25 : decode cX6_ratePilgrim 25 = .ok (.invokestatic 113, 3) := by decide +kernel
theorem dX6_ratePilgrim_28 : decode cX6_ratePilgrim 28 = .ok (.iadd, 1) := by decide +kernel
theorem dX6_ratePilgrim_29 : decode cX6_ratePilgrim 29 = .ok (.ireturn, 1) := by decide +kernel
theorem dX6_rateShepherd_0 : decode cX6_rateShepherd 0 = .ok (.aload_n 0, 1) := by decide +kernel
theorem dX6_rateShepherd_1 : decode cX6_rateShepherd 1 = .ok (.dup, 1) := by decide +kernel
theorem dX6_rateShepherd_2 : decode cX6_rateShepherd 2 = .ok (.getfield 56, 3) := by decide +kernel
theorem dX6_rateShepherd_5 : decode cX6_rateShepherd 5 = .ok (.ldc2_w 244, 3) := by decide +kernel
theorem dX6_rateShepherd_8 : decode cX6_rateShepherd 8 = .ok (.ladd, 1) := by decide +kernel
theorem dX6_rateShepherd_9 : decode cX6_rateShepherd 9 = .ok (.putfield 56, 3) := by decide +kernel
theorem dX6_rateShepherd_12 : decode cX6_rateShepherd 12 = .ok (.aload_n 0, 1) := by decide +kernel
theorem dX6_rateShepherd_13 : decode cX6_rateShepherd 13 = .ok (.iload_n 1, 1) := by decide +kernel
theorem dX6_rateShepherd_14 : decode cX6_rateShepherd 14 = .ok (.invokevirtual 196, 3) := by decide +kernel
theorem dX6_rateShepherd_17 : decode cX6_rateShepherd 17 = .ok (.aload_n 0, 1) := by decide +kernel
theorem dX6_rateShepherd_18 : decode cX6_rateShepherd 18 = .ok (.getfield 46, 3) := by decide +kernel
theorem dX6_rateShepherd_21 : decode cX6_rateShepherd 21 = .ok (.iload_n 1, 1) := by decide +kernel
theorem dX6_rateShepherd_22 : decode cX6_rateShepherd 22 = .ok (.invokevirtual 132, 3) := by decide +kernel
theorem dX6_rateShepherd_25 : decode cX6_rateShepherd 25 = .ok (.isub, 1) := by decide +kernel
theorem dX6_rateShepherd_26 : decode cX6_rateShepherd 26 = .ok (.ireturn, 1) := by decide +kernel
theorem dX6_rateMonk_0 : decode cX6_rateMonk 0 = .ok (.aload_n 0, 1) := by decide +kernel
theorem dX6_rateMonk_1 : decode cX6_rateMonk 1 = .ok (.dup, 1) := by decide +kernel
theorem dX6_rateMonk_2 : decode cX6_rateMonk 2 = .ok (.getfield 56, 3) := by decide +kernel
theorem dX6_rateMonk_5 : decode cX6_rateMonk 5 = .ok (.ldc2_w 246, 3) := by decide +kernel
theorem dX6_rateMonk_8 : decode cX6_rateMonk 8 = .ok (.ladd, 1) := by decide +kernel
theorem dX6_rateMonk_9 : decode cX6_rateMonk 9 = .ok (.putfield 56, 3) := by decide +kernel
theorem dX6_rateMonk_12 : decode cX6_rateMonk 12 = .ok (.iconst 2, 1) := by decide +kernel
theorem dX6_rateMonk_13 : decode cX6_rateMonk 13 = .ok (.aload_n 0, 1) := by decide +kernel
theorem dX6_rateMonk_14 : decode cX6_rateMonk 14 = .ok (.iload_n 1, 1) := by decide +kernel
theorem dX6_rateMonk_15 : decode cX6_rateMonk 15 = .ok (.invokevirtual 199, 3) := by decide +kernel
theorem dX6_rateMonk_18 : decode cX6_rateMonk 18 = .ok (.imul, 1) := by decide +kernel
theorem dX6_rateMonk_19 : decode cX6_rateMonk 19 = .ok (.ireturn, 1) := by decide +kernel
theorem dX6_rateThief_0 : decode cX6_rateThief 0 = .ok (.aload_n 0, 1) := by decide +kernel
theorem dX6_rateThief_1 : decode cX6_rateThief 1 = .ok (.dup, 1) := by decide +kernel
theorem dX6_rateThief_2 : decode cX6_rateThief 2 = .ok (.getfield 56, 3) := by decide +kernel
theorem dX6_rateThief_5 : decode cX6_rateThief 5 = .ok (.ldc2_w 248, 3) := by decide +kernel
theorem dX6_rateThief_8 : decode cX6_rateThief 8 = .ok (.ladd, 1) := by decide +kernel
theorem dX6_rateThief_9 : decode cX6_rateThief 9 = .ok (.putfield 56, 3) := by decide +kernel
theorem dX6_rateThief_12 : decode cX6_rateThief 12 = .ok (.aload_n 0, 1) := by decide +kernel
theorem dX6_rateThief_13 : decode cX6_rateThief 13 = .ok (.iload_n 1, 1) := by decide +kernel
theorem dX6_rateThief_14 : decode cX6_rateThief 14 = .ok (.invokevirtual 202, 3) := by decide +kernel
theorem dX6_rateThief_17 : decode cX6_rateThief 17 = .ok (.iload_n 1, 1) := by decide +kernel
theorem dX6_rateThief_18 : decode cX6_rateThief 18 = .ok (.iadd, 1) := by decide +kernel
theorem dX6_rateThief_19 : decode cX6_rateThief 19 = .ok (.ireturn, 1) := by decide +kernel
theorem dX6_rateChild_0 : decode cX6_rateChild 0 = .ok (.aload_n 0, 1) := by decide +kernel
theorem dX6_rateChild_1 : decode cX6_rateChild 1 = .ok (.dup, 1) := by decide +kernel
theorem dX6_rateChild_2 : decode cX6_rateChild 2 = .ok (.getfield 56, 3) := by decide +kernel
theorem dX6_rateChild_5 : decode cX6_rateChild 5 = .ok (.ldc2_w 250, 3) := by decide +kernel
theorem dX6_rateChild_8 : decode cX6_rateChild 8 = .ok (.ladd, 1) := by decide +kernel
theorem dX6_rateChild_9 : decode cX6_rateChild 9 = .ok (.putfield 56, 3) := by decide +kernel
theorem dX6_rateChild_12 : decode cX6_rateChild 12 = .ok (.aload_n 0, 1) := by decide +kernel
theorem dX6_rateChild_13 : decode cX6_rateChild 13 = .ok (.iload_n 1, 1) := by decide +kernel
theorem dX6_rateChild_14 : decode cX6_rateChild 14 = .ok (.invokevirtual 196, 3) := by decide +kernel
theorem dX6_rateChild_17 : decode cX6_rateChild 17 = .ok (.aload_n 0, 1) := by decide +kernel
theorem dX6_rateChild_18 : decode cX6_rateChild 18 = .ok (.getfield 42, 3) := by decide +kernel
theorem dX6_rateChild_21 : decode cX6_rateChild 21 = .ok (.aload_n 0, 1) := by decide +kernel
theorem dX6_rateChild_22 : decode cX6_rateChild 22 = .ok (.getfield 24, 3) := by decide +kernel
theorem dX6_rateChild_25 : decode cX6_rateChild 25 = .ok (.getfield 123, 3) := by decide +kernel
theorem dX6_rateChild_28 : decode cX6_rateChild 28 = .ok (.iload_n 1, 1) := by decide +kernel
theorem dX6_rateChild_29 : decode cX6_rateChild 29 = .ok (.invokestatic 113, 3) := by decide +kernel
theorem dX6_rateChild_32 : decode cX6_rateChild 32 = .ok (.aload_n 0, 1) := by decide +kernel
theorem dX6_rateChild_33 : decode cX6_rateChild 33 = .ok (.getfield 24, 3) := by decide +kernel
theorem dX6_rateChild_36 : decode cX6_rateChild 36 = .ok (.getfield 126, 3) := by decide +kernel
theorem dX6_rateChild_39 : decode cX6_rateChild 39 = .ok (.iload_n 1, 1) := by decide +kernel
theorem dX6_rateChild_40 : decode cX6_rateChild 40 = .ok (.invokestatic 113, 3) := by decide +kernel
theorem dX6_rateChild_43 : decode cX6_rateChild 43 = .ok (.aload_n 0, 1) := by decide +kernel
theorem dX6_rateChild_44 : decode cX6_rateChild 44 = .ok (.invokevirtual 169, 3) := by decide +kernel
theorem dX6_rateChild_47 : decode cX6_rateChild 47 = .ok (.invokevirtual 179, 3) := by decide +kernel
theorem dX6_rateChild_50 : decode cX6_rateChild 50 = .ok (.iadd, 1) := by decide +kernel
theorem dX6_rateChild_51 : decode cX6_rateChild 51 = .ok (.ireturn, 1) := by decide +kernel
theorem dX6_at_0 : decode cX6_at 0 = .ok (.iload_n 1, 1) := by decide +kernel
theorem dX6_at_1 : decode cX6_at 1 = .ok (.ifCond .lt 15, 3) := by decide +kernel
theorem dX6_at_4 : decode cX6_at 4 = .ok (.iload_n 1, 1) := by decide +kernel
theorem dX6_at_5 : decode cX6_at 5 = .ok (.aload_n 0, 1) := by decide +kernel
theorem dX6_at_6 : decode cX6_at 6 = .ok (.arraylength, 1) := by decide +kernel
theorem dX6_at_7 : decode cX6_at 7 = .ok (.if_icmp .ge 9, 3) := by decide +kernel
theorem dX6_at_10 : decode cX6_at 10 = .ok (.aload_n 0, 1) := by decide +kernel
theorem dX6_at_11 : decode cX6_at 11 = .ok (.iload_n 1, 1) := by decide +kernel
theorem dX6_at_12 : decode cX6_at 12 = .ok (.iaload, 1) := by decide +kernel
theorem dX6_at_13 : decode cX6_at 13 = .ok (.goto 4, 3) := by decide +kernel
theorem dX6_at_16 : decode cX6_at 16 = .ok (.iconst 0, 1) := by decide +kernel
theorem dX6_at_17 : decode cX6_at 17 = .ok (.ireturn, 1) := by decide +kernel
theorem dX6_put_0 : decode cX6_put 0 = .ok (.iload_n 1, 1) := by decide +kernel
theorem dX6_put_1 : decode cX6_put 1 = .ok (.ifCond .lt 13, 3) := by decide +kernel
theorem dX6_put_4 : decode cX6_put 4 = .ok (.iload_n 1, 1) := by decide +kernel
theorem dX6_put_5 : decode cX6_put 5 = .ok (.aload_n 0, 1) := by decide +kernel
theorem dX6_put_6 : decode cX6_put 6 = .ok (.arraylength, 1) := by decide +kernel
theorem dX6_put_7 : decode cX6_put 7 = .ok (.if_icmp .ge 7, 3) := by decide +kernel
theorem dX6_put_10 : decode cX6_put 10 = .ok (.aload_n 0, 1) := by decide +kernel
theorem dX6_put_11 : decode cX6_put 11 = .ok (.iload_n 1, 1) := by decide +kernel
theorem dX6_put_12 : decode cX6_put 12 = .ok (.iload_n 2, 1) := by decide +kernel
theorem dX6_put_13 : decode cX6_put 13 = .ok (.iastore, 1) := by decide +kernel
theorem dX6_put_14 : decode cX6_put 14 = .ok (.return_, 1) := by decide +kernel
theorem dX6_copyRow_0 : decode cX6_copyRow 0 = .ok (.aload_n 0, 1) := by decide +kernel
theorem dX6_copyRow_1 : decode cX6_copyRow 1 = .ok (.iconst 0, 1) := by decide +kernel
theorem dX6_copyRow_2 : decode cX6_copyRow 2 = .ok (.aload_n 1, 1) := by decide +kernel
theorem dX6_copyRow_3 : decode cX6_copyRow 3 = .ok (.iconst 0, 1) := by decide +kernel
theorem dX6_copyRow_4 : decode cX6_copyRow 4 = .ok (.aload_n 0, 1) := by decide +kernel
theorem dX6_copyRow_5 : decode cX6_copyRow 5 = .ok (.arraylength, 1) := by decide +kernel
theorem dX6_copyRow_6 : decode cX6_copyRow 6 = .ok (.aload_n 1, 1) := by decide +kernel
theorem dX6_copyRow_7 : decode cX6_copyRow 7 = .ok (.arraylength, 1) := by decide +kernel
theorem dX6_copyRow_8 : decode cX6_copyRow 8 = .ok (.invokestatic 252, 3) := by decide +kernel
theorem dX6_copyRow_11 : decode cX6_copyRow 11 = .ok (.invokestatic 255, 3) := by decide +kernel
theorem dX6_copyRow_14 : decode cX6_copyRow 14 = .ok (.return_, 1) := by decide +kernel
theorem dX6_has_0 : decode cX6_has 0 = .ok (.iload_n 0, 1) := by decide +kernel
theorem dX6_has_1 : decode cX6_has 1 = .ok (.iconst 1, 1) := by decide +kernel
theorem dX6_has_2 : decode cX6_has 2 = .ok (.iload_n 1, 1) := by decide +kernel
theorem dX6_has_3 : decode cX6_has 3 = .ok (.ishl, 1) := by decide +kernel
theorem dX6_has_4 : decode cX6_has 4 = .ok (.iand, 1) := by decide +kernel
theorem dX6_has_5 : decode cX6_has 5 = .ok (.ifCond .eq 7, 3) := by decide +kernel
theorem dX6_has_8 : decode cX6_has 8 = .ok (.iconst 1, 1) := by decide +kernel
theorem dX6_has_9 : decode cX6_has 9 = .ok (.goto 4, 3) := by decide +kernel
theorem dX6_has_12 : decode cX6_has 12 = .ok (.iconst 0, 1) := by decide +kernel
theorem dX6_has_13 : decode cX6_has 13 = .ok (.ireturn, 1) := by decide +kernel
theorem dJ6_bitCount_0f7a4_0 : decode cJ6_bitCount_0f7a4 0 = .ok (.iload_n 0, 1) := by decide +kernel
theorem dJ6_bitCount_0f7a4_1 : decode cJ6_bitCount_0f7a4 1 = .ok (.iload_n 0, 1) := by decide +kernel
theorem dJ6_bitCount_0f7a4_2 : decode cJ6_bitCount_0f7a4 2 = .ok (.iconst 1, 1) := by decide +kernel
theorem dJ6_bitCount_0f7a4_3 : decode cJ6_bitCount_0f7a4 3 = .ok (.iushr, 1) := by decide +kernel
theorem dJ6_bitCount_0f7a4_4 : decode cJ6_bitCount_0f7a4 4 = .ok (.ldc_w 265, 3) := by decide +kernel
theorem dJ6_bitCount_0f7a4_7 : decode cJ6_bitCount_0f7a4 7 = .ok (.iand, 1) := by decide +kernel
theorem dJ6_bitCount_0f7a4_8 : decode cJ6_bitCount_0f7a4 8 = .ok (.isub, 1) := by decide +kernel
theorem dJ6_bitCount_0f7a4_9 : decode cJ6_bitCount_0f7a4 9 = .ok (.istore_n 0, 1) := by decide +kernel
theorem dJ6_bitCount_0f7a4_10 : decode cJ6_bitCount_0f7a4 10 = .ok (.iload_n 0, 1) := by decide +kernel
theorem dJ6_bitCount_0f7a4_11 : decode cJ6_bitCount_0f7a4 11 = .ok (.ldc_w 266, 3) := by decide +kernel
theorem dJ6_bitCount_0f7a4_14 : decode cJ6_bitCount_0f7a4 14 = .ok (.iand, 1) := by decide +kernel
theorem dJ6_bitCount_0f7a4_15 : decode cJ6_bitCount_0f7a4 15 = .ok (.iload_n 0, 1) := by decide +kernel
theorem dJ6_bitCount_0f7a4_16 : decode cJ6_bitCount_0f7a4 16 = .ok (.iconst 2, 1) := by decide +kernel
theorem dJ6_bitCount_0f7a4_17 : decode cJ6_bitCount_0f7a4 17 = .ok (.iushr, 1) := by decide +kernel
theorem dJ6_bitCount_0f7a4_18 : decode cJ6_bitCount_0f7a4 18 = .ok (.ldc_w 266, 3) := by decide +kernel
theorem dJ6_bitCount_0f7a4_21 : decode cJ6_bitCount_0f7a4 21 = .ok (.iand, 1) := by decide +kernel
theorem dJ6_bitCount_0f7a4_22 : decode cJ6_bitCount_0f7a4 22 = .ok (.iadd, 1) := by decide +kernel
theorem dJ6_bitCount_0f7a4_23 : decode cJ6_bitCount_0f7a4 23 = .ok (.istore_n 0, 1) := by decide +kernel
theorem dJ6_bitCount_0f7a4_24 : decode cJ6_bitCount_0f7a4 24 = .ok (.iload_n 0, 1) := by decide +kernel
theorem dJ6_bitCount_0f7a4_25 : decode cJ6_bitCount_0f7a4 25 = .ok (.iload_n 0, 1) := by decide +kernel
theorem dJ6_bitCount_0f7a4_26 : decode cJ6_bitCount_0f7a4 26 = .ok (.iconst 4, 1) := by decide +kernel
theorem dJ6_bitCount_0f7a4_27 : decode cJ6_bitCount_0f7a4 27 = .ok (.iushr, 1) := by decide +kernel
theorem dJ6_bitCount_0f7a4_28 : decode cJ6_bitCount_0f7a4 28 = .ok (.iadd, 1) := by decide +kernel
theorem dJ6_bitCount_0f7a4_29 : decode cJ6_bitCount_0f7a4 29 = .ok (.ldc_w 267, 3) := by decide +kernel
theorem dJ6_bitCount_0f7a4_32 : decode cJ6_bitCount_0f7a4 32 = .ok (.iand, 1) := by decide +kernel
theorem dJ6_bitCount_0f7a4_33 : decode cJ6_bitCount_0f7a4 33 = .ok (.istore_n 0, 1) := by decide +kernel
theorem dJ6_bitCount_0f7a4_34 : decode cJ6_bitCount_0f7a4 34 = .ok (.iload_n 0, 1) := by decide +kernel
theorem dJ6_bitCount_0f7a4_35 : decode cJ6_bitCount_0f7a4 35 = .ok (.iload_n 0, 1) := by decide +kernel
theorem dJ6_bitCount_0f7a4_36 : decode cJ6_bitCount_0f7a4 36 = .ok (.bipush 8, 2) := by decide +kernel
theorem dJ6_bitCount_0f7a4_38 : decode cJ6_bitCount_0f7a4 38 = .ok (.iushr, 1) := by decide +kernel
theorem dJ6_bitCount_0f7a4_39 : decode cJ6_bitCount_0f7a4 39 = .ok (.iadd, 1) := by decide +kernel
theorem dJ6_bitCount_0f7a4_40 : decode cJ6_bitCount_0f7a4 40 = .ok (.istore_n 0, 1) := by decide +kernel
theorem dJ6_bitCount_0f7a4_41 : decode cJ6_bitCount_0f7a4 41 = .ok (.iload_n 0, 1) := by decide +kernel
theorem dJ6_bitCount_0f7a4_42 : decode cJ6_bitCount_0f7a4 42 = .ok (.iload_n 0, 1) := by decide +kernel
theorem dJ6_bitCount_0f7a4_43 : decode cJ6_bitCount_0f7a4 43 = .ok (.bipush 16, 2) := by decide +kernel
theorem dJ6_bitCount_0f7a4_45 : decode cJ6_bitCount_0f7a4 45 = .ok (.iushr, 1) := by decide +kernel
theorem dJ6_bitCount_0f7a4_46 : decode cJ6_bitCount_0f7a4 46 = .ok (.iadd, 1) := by decide +kernel
theorem dJ6_bitCount_0f7a4_47 : decode cJ6_bitCount_0f7a4 47 = .ok (.istore_n 0, 1) := by decide +kernel
theorem dJ6_bitCount_0f7a4_48 : decode cJ6_bitCount_0f7a4 48 = .ok (.iload_n 0, 1) := by decide +kernel
theorem dJ6_bitCount_0f7a4_49 : decode cJ6_bitCount_0f7a4 49 = .ok (.bipush 63, 2) := by decide +kernel
theorem dJ6_bitCount_0f7a4_51 : decode cJ6_bitCount_0f7a4 51 = .ok (.iand, 1) := by decide +kernel
theorem dJ6_bitCount_0f7a4_52 : decode cJ6_bitCount_0f7a4 52 = .ok (.ireturn, 1) := by decide +kernel
theorem dJ9_max_7cf53_0 : decode cJ9_max_7cf53 0 = .ok (.iload_n 0, 1) := by decide +kernel
theorem dJ9_max_7cf53_1 : decode cJ9_max_7cf53 1 = .ok (.iload_n 1, 1) := by decide +kernel
theorem dJ9_max_7cf53_2 : decode cJ9_max_7cf53 2 = .ok (.if_icmp .lt 7, 3) := by decide +kernel
theorem dJ9_max_7cf53_5 : decode cJ9_max_7cf53 5 = .ok (.iload_n 0, 1) := by decide +kernel
theorem dJ9_max_7cf53_6 : decode cJ9_max_7cf53 6 = .ok (.goto 4, 3) := by decide +kernel
theorem dJ9_max_7cf53_9 : decode cJ9_max_7cf53 9 = .ok (.iload_n 1, 1) := by decide +kernel
theorem dJ9_max_7cf53_10 : decode cJ9_max_7cf53 10 = .ok (.ireturn, 1) := by decide +kernel
theorem dJ9_min_7cf53_0 : decode cJ9_min_7cf53 0 = .ok (.iload_n 0, 1) := by decide +kernel
theorem dJ9_min_7cf53_1 : decode cJ9_min_7cf53 1 = .ok (.iload_n 1, 1) := by decide +kernel
theorem dJ9_min_7cf53_2 : decode cJ9_min_7cf53 2 = .ok (.if_icmp .gt 7, 3) := by decide +kernel
theorem dJ9_min_7cf53_5 : decode cJ9_min_7cf53 5 = .ok (.iload_n 0, 1) := by decide +kernel
theorem dJ9_min_7cf53_6 : decode cJ9_min_7cf53 6 = .ok (.goto 4, 3) := by decide +kernel
theorem dJ9_min_7cf53_9 : decode cJ9_min_7cf53 9 = .ok (.iload_n 1, 1) := by decide +kernel
theorem dJ9_min_7cf53_10 : decode cJ9_min_7cf53 10 = .ok (.ireturn, 1) := by decide +kernel
theorem dJ0_length_8abf5_0 : decode cJ0_length_8abf5 0 = .ok (.aload_n 0, 1) := by decide +kernel
theorem dJ0_length_8abf5_1 : decode cJ0_length_8abf5 1 = .ok (.getfield 9, 3) := by decide +kernel
theorem dJ0_length_8abf5_4 : decode cJ0_length_8abf5 4 = .ok (.arraylength, 1) := by decide +kernel
theorem dJ0_length_8abf5_5 : decode cJ0_length_8abf5 5 = .ok (.aload_n 0, 1) := by decide +kernel
theorem dJ0_length_8abf5_6 : decode cJ0_length_8abf5 6 = .ok (.invokevirtual 335, 3) := by decide +kernel
theorem dJ0_length_8abf5_9 : decode cJ0_length_8abf5 9 = .ok (.ishr, 1) := by decide +kernel
theorem dJ0_length_8abf5_10 : decode cJ0_length_8abf5 10 = .ok (.ireturn, 1) := by decide +kernel
theorem dJ0_charAt_5068e_0 : decode cJ0_charAt_5068e 0 = .ok (.aload_n 0, 1) := by decide +kernel
theorem dJ0_charAt_5068e_1 : decode cJ0_charAt_5068e 1 = .ok (.invokevirtual 492, 3) := by decide +kernel
theorem dJ0_charAt_5068e_4 : decode cJ0_charAt_5068e 4 = .ok (.ifCond .eq 12, 3) := by decide +kernel
theorem dJ0_charAt_5068e_7 : decode cJ0_charAt_5068e 7 = .ok (.aload_n 0, 1) := by decide +kernel
theorem dJ0_charAt_5068e_8 : decode cJ0_charAt_5068e 8 = .ok (.getfield 9, 3) := by decide +kernel
theorem dJ0_charAt_5068e_11 : decode cJ0_charAt_5068e 11 = .ok (.iload_n 1, 1) := by decide +kernel
theorem dJ0_charAt_5068e_12 : decode cJ0_charAt_5068e 12 = .ok (.invokestatic 495, 3) := by decide +kernel
theorem dJ0_charAt_5068e_15 : decode cJ0_charAt_5068e 15 = .ok (.ireturn, 1) := by decide +kernel
theorem dJ0_charAt_5068e_16 : decode cJ0_charAt_5068e 16 = .ok (.aload_n 0, 1) := by decide +kernel
theorem dJ0_charAt_5068e_17 : decode cJ0_charAt_5068e 17 = .ok (.getfield 9, 3) := by decide +kernel
theorem dJ0_charAt_5068e_20 : decode cJ0_charAt_5068e 20 = .ok (.iload_n 1, 1) := by decide +kernel
theorem dJ0_charAt_5068e_21 : decode cJ0_charAt_5068e 21 = .ok (.invokestatic 498, 3) := by decide +kernel
theorem dJ0_charAt_5068e_24 : decode cJ0_charAt_5068e 24 = .ok (.ireturn, 1) := by decide +kernel
theorem dJ0_coder_7d493_0 : decode cJ0_coder_7d493 0 = .ok (.getstatic 38, 3) := by decide +kernel
theorem dJ0_coder_7d493_3 : decode cJ0_coder_7d493 3 = .ok (.ifCond .eq 10, 3) := by decide +kernel
theorem dJ0_coder_7d493_6 : decode cJ0_coder_7d493 6 = .ok (.aload_n 0, 1) := by decide +kernel
theorem dJ0_coder_7d493_7 : decode cJ0_coder_7d493 7 = .ok (.getfield 15, 3) := by decide +kernel
theorem dJ0_coder_7d493_10 : decode cJ0_coder_7d493 10 = .ok (.goto 4, 3) := by decide +kernel
theorem dJ0_coder_7d493_13 : decode cJ0_coder_7d493 13 = .ok (.iconst 1, 1) := by decide +kernel
theorem dJ0_coder_7d493_14 : decode cJ0_coder_7d493 14 = .ok (.ireturn, 1) := by decide +kernel
theorem dJ0_isLatin1_aae02_0 : decode cJ0_isLatin1_aae02 0 = .ok (.getstatic 38, 3) := by decide +kernel
theorem dJ0_isLatin1_aae02_3 : decode cJ0_isLatin1_aae02 3 = .ok (.ifCond .eq 14, 3) := by decide +kernel
theorem dJ0_isLatin1_aae02_6 : decode cJ0_isLatin1_aae02 6 = .ok (.aload_n 0, 1) := by decide +kernel
theorem dJ0_isLatin1_aae02_7 : decode cJ0_isLatin1_aae02 7 = .ok (.getfield 15, 3) := by decide +kernel
theorem dJ0_isLatin1_aae02_10 : decode cJ0_isLatin1_aae02 10 = .ok (.ifCond .ne 7, 3) := by decide +kernel
theorem dJ0_isLatin1_aae02_13 : decode cJ0_isLatin1_aae02 13 = .ok (.iconst 1, 1) := by decide +kernel
theorem dJ0_isLatin1_aae02_14 : decode cJ0_isLatin1_aae02 14 = .ok (.goto 4, 3) := by decide +kernel
theorem dJ0_isLatin1_aae02_17 : decode cJ0_isLatin1_aae02 17 = .ok (.iconst 0, 1) := by decide +kernel
theorem dJ0_isLatin1_aae02_18 : decode cJ0_isLatin1_aae02 18 = .ok (.ireturn, 1) := by decide +kernel
theorem dJ0_checkIndex_df160_0 : decode cJ0_checkIndex_df160 0 = .ok (.iload_n 0, 1) := by decide +kernel
theorem dJ0_checkIndex_df160_1 : decode cJ0_checkIndex_df160 1 = .ok (.iload_n 1, 1) := by decide +kernel
theorem dJ0_checkIndex_df160_2 : decode cJ0_checkIndex_df160 2 = .ok (.getstatic 1053, 3) := by decide +kernel
theorem dJ0_checkIndex_df160_5 : decode cJ0_checkIndex_df160 5 = .ok (.invokestatic 1059, 3) := by decide +kernel
theorem dJ0_checkIndex_df160_8 : decode cJ0_checkIndex_df160 8 = .ok (.pop, 1) := by decide +kernel
theorem dJ0_checkIndex_df160_9 : decode cJ0_checkIndex_df160 9 = .ok (.return_, 1) := by decide +kernel
theorem dJ1_charAt_3b067_0 : decode cJ1_charAt_3b067 0 = .ok (.iload_n 1, 1) := by decide +kernel
theorem dJ1_charAt_3b067_1 : decode cJ1_charAt_3b067 1 = .ok (.aload_n 0, 1) := by decide +kernel
theorem dJ1_charAt_3b067_2 : decode cJ1_charAt_3b067 2 = .ok (.arraylength, 1) := by decide +kernel
theorem dJ1_charAt_3b067_3 : decode cJ1_charAt_3b067 3 = .ok (.invokestatic 9, 3) := by decide +kernel
theorem dJ1_charAt_3b067_6 : decode cJ1_charAt_3b067 6 = .ok (.aload_n 0, 1) := by decide +kernel
theorem dJ1_charAt_3b067_7 : decode cJ1_charAt_3b067 7 = .ok (.iload_n 1, 1) := by decide +kernel
theorem dJ1_charAt_3b067_8 : decode cJ1_charAt_3b067 8 = .ok (.baload, 1) := by decide +kernel
theorem dJ1_charAt_3b067_9 : decode cJ1_charAt_3b067 9 = .ok (.sipush 255, 3) := by decide +kernel
theorem dJ1_charAt_3b067_12 : decode cJ1_charAt_3b067 12 = .ok (.iand, 1) := by decide +kernel
theorem dJ1_charAt_3b067_13 : decode cJ1_charAt_3b067 13 = .ok (.i2c, 1) := by decide +kernel
theorem dJ1_charAt_3b067_14 : decode cJ1_charAt_3b067 14 = .ok (.ireturn, 1) := by decide +kernel
theorem dJ2_getChar_3b067_0 : decode cJ2_getChar_3b067 0 = .ok (.getstatic 44, 3) := by decide +kernel
theorem dJ2_getChar_3b067_3 : decode cJ2_getChar_3b067 3 = .ok (.ifCond .ne 25, 3) := by decide +kernel
theorem dJ2_getChar_3b067_6 : decode cJ2_getChar_3b067 6 = .ok (.iload_n 1, 1) := by decide +kernel
theorem dJ2_getChar_3b067_7 : decode cJ2_getChar_3b067 7 = .ok (.ifCond .lt 11, 3) := by decide +kernel
theorem dJ2_getChar_3b067_10 : decode cJ2_getChar_3b067 10 = .ok (.iload_n 1, 1) := by decide +kernel
theorem dJ2_getChar_3b067_11 : decode cJ2_getChar_3b067 11 = .ok (.aload_n 0, 1) := by decide +kernel
theorem dJ2_getChar_3b067_12 : decode cJ2_getChar_3b067 12 = .ok (.invokestatic 48, 3) := by decide +kernel
theorem dJ2_getChar_3b067_15 : decode cJ2_getChar_3b067 15 = .ok (.if_icmp .lt 13, 3) := by decide +kernel
theorem dJ2_getChar_3b067_18 : decode cJ2_getChar_3b067 18 = .ok (.new 52, 3) := by decide +kernel
theorem dJ2_getChar_3b067_21 : decode cJ2_getChar_3b067 21 = .ok (.dup, 1) := by decide +kernel
theorem dJ2_getChar_3b067_22 : decode cJ2_getChar_3b067 22 = .ok (.ldc 54, 2) := by decide +kernel
theorem dJ2_getChar_3b067_24 : decode cJ2_getChar_3b067 24 = .ok (.invokespecial 56, 3) := by decide +kernel
theorem dJ2_getChar_3b067_27 : decode cJ2_getChar_3b067 27 = .ok (.athrow, 1) := by decide +kernel
theorem dJ2_getChar_3b067_28 : decode cJ2_getChar_3b067 28 = .ok (.iload_n 1, 1) := by decide +kernel
theorem dJ2_getChar_3b067_29 : decode cJ2_getChar_3b067 29 = .ok (.iconst 1, 1) := by decide +kernel
theorem dJ2_getChar_3b067_30 : decode cJ2_getChar_3b067 30 = .ok (.ishl, 1) := by decide +kernel
theorem dJ2_getChar_3b067_31 : decode cJ2_getChar_3b067 31 = .ok (.istore_n 1, 1) := by decide +kernel
theorem dJ2_getChar_3b067_32 : decode cJ2_getChar_3b067 32 = .ok (.aload_n 0, 1) := by decide +kernel
theorem dJ2_getChar_3b067_33 : decode cJ2_getChar_3b067 33 = .ok (.iload_n 1, 1) := by decide +kernel
theorem dJ2_getChar_3b067_34 : decode cJ2_getChar_3b067 34 = .ok (.iinc 1 1, 3) := by decide +kernel
theorem dJ2_getChar_3b067_37 : decode cJ2_getChar_3b067 37 = .ok (.baload, 1) := by decide +kernel
theorem dJ2_getChar_3b067_38 : decode cJ2_getChar_3b067 38 = .ok (.sipush 255, 3) := by decide +kernel
theorem dJ2_getChar_3b067_41 : decode cJ2_getChar_3b067 41 = .ok (.iand, 1) := by decide +kernel
theorem dJ2_getChar_3b067_42 : decode cJ2_getChar_3b067 42 = .ok (.getstatic 59, 3) := by decide +kernel
theorem dJ2_getChar_3b067_45 : decode cJ2_getChar_3b067 45 = .ok (.ishl, 1) := by decide +kernel
theorem dJ2_getChar_3b067_46 : decode cJ2_getChar_3b067 46 = .ok (.aload_n 0, 1) := by decide +kernel
theorem dJ2_getChar_3b067_47 : decode cJ2_getChar_3b067 47 = .ok (.iload_n 1, 1) := by decide +kernel
theorem dJ2_getChar_3b067_48 : decode cJ2_getChar_3b067 48 = .ok (.baload, 1) := by decide +kernel
theorem dJ2_getChar_3b067_49 : decode cJ2_getChar_3b067 49 = .ok (.sipush 255, 3) := by decide +kernel
theorem dJ2_getChar_3b067_52 : decode cJ2_getChar_3b067 52 = .ok (.iand, 1) := by decide +kernel
theorem dJ2_getChar_3b067_53 : decode cJ2_getChar_3b067 53 = .ok (.getstatic 63, 3) := by decide +kernel
theorem dJ2_getChar_3b067_56 : decode cJ2_getChar_3b067 56 = .ok (.ishl, 1) := by decide +kernel
theorem dJ2_getChar_3b067_57 : decode cJ2_getChar_3b067 57 = .ok (.ior, 1) := by decide +kernel
theorem dJ2_getChar_3b067_58 : decode cJ2_getChar_3b067 58 = .ok (.i2c, 1) := by decide +kernel
theorem dJ2_getChar_3b067_59 : decode cJ2_getChar_3b067 59 = .ok (.ireturn, 1) := by decide +kernel
theorem dJ2_length_9d52b_0 : decode cJ2_length_9d52b 0 = .ok (.aload_n 0, 1) := by decide +kernel
theorem dJ2_length_9d52b_1 : decode cJ2_length_9d52b 1 = .ok (.arraylength, 1) := by decide +kernel
theorem dJ2_length_9d52b_2 : decode cJ2_length_9d52b 2 = .ok (.iconst 1, 1) := by decide +kernel
theorem dJ2_length_9d52b_3 : decode cJ2_length_9d52b 3 = .ok (.ishr, 1) := by decide +kernel
theorem dJ2_length_9d52b_4 : decode cJ2_length_9d52b 4 = .ok (.ireturn, 1) := by decide +kernel
theorem dJ2_charAt_3b067_0 : decode cJ2_charAt_3b067 0 = .ok (.iload_n 1, 1) := by decide +kernel
theorem dJ2_charAt_3b067_1 : decode cJ2_charAt_3b067 1 = .ok (.aload_n 0, 1) := by decide +kernel
theorem dJ2_charAt_3b067_2 : decode cJ2_charAt_3b067 2 = .ok (.invokestatic 67, 3) := by decide +kernel
theorem dJ2_charAt_3b067_5 : decode cJ2_charAt_3b067 5 = .ok (.aload_n 0, 1) := by decide +kernel
theorem dJ2_charAt_3b067_6 : decode cJ2_charAt_3b067 6 = .ok (.iload_n 1, 1) := by decide +kernel
theorem dJ2_charAt_3b067_7 : decode cJ2_charAt_3b067 7 = .ok (.invokestatic 71, 3) := by decide +kernel
theorem dJ2_charAt_3b067_10 : decode cJ2_charAt_3b067 10 = .ok (.ireturn, 1) := by decide +kernel
theorem dJ2_checkIndex_2214a_0 : decode cJ2_checkIndex_2214a 0 = .ok (.iload_n 0, 1) := by decide +kernel
theorem dJ2_checkIndex_2214a_1 : decode cJ2_checkIndex_2214a 1 = .ok (.aload_n 1, 1) := by decide +kernel
theorem dJ2_checkIndex_2214a_2 : decode cJ2_checkIndex_2214a 2 = .ok (.invokestatic 48, 3) := by decide +kernel
theorem dJ2_checkIndex_2214a_5 : decode cJ2_checkIndex_2214a 5 = .ok (.invokestatic 414, 3) := by decide +kernel
theorem dJ2_checkIndex_2214a_8 : decode cJ2_checkIndex_2214a 8 = .ok (.return_, 1) := by decide +kernel
theorem dJ3_checkIndex_8e157_0 : decode cJ3_checkIndex_8e157 0 = .ok (.iload_n 0, 1) := by decide +kernel
theorem dJ3_checkIndex_8e157_1 : decode cJ3_checkIndex_8e157 1 = .ok (.ifCond .lt 8, 3) := by decide +kernel
theorem dJ3_checkIndex_8e157_4 : decode cJ3_checkIndex_8e157 4 = .ok (.iload_n 0, 1) := by decide +kernel
theorem dJ3_checkIndex_8e157_5 : decode cJ3_checkIndex_8e157 5 = .ok (.iload_n 1, 1) := by decide +kernel
theorem dJ3_checkIndex_8e157_6 : decode cJ3_checkIndex_8e157 6 = .ok (.if_icmp .lt 10, 3) := by decide +kernel
theorem dJ3_checkIndex_8e157_9 : decode cJ3_checkIndex_8e157 9 = .ok (.aload_n 2, 1) := by decide +kernel
theorem dJ3_checkIndex_8e157_10 : decode cJ3_checkIndex_8e157 10 = .ok (.iload_n 0, 1) := by decide +kernel
theorem dJ3_checkIndex_8e157_11 : decode cJ3_checkIndex_8e157 11 = .ok (.iload_n 1, 1) := by decide +kernel
theorem dJ3_checkIndex_8e157_12 : decode cJ3_checkIndex_8e157 12 = .ok (.invokestatic 95, 3) := by decide +kernel
theorem dJ3_checkIndex_8e157_15 : decode cJ3_checkIndex_8e157 15 = .ok (.athrow, 1) := by decide +kernel
theorem dJ3_checkIndex_8e157_16 : decode cJ3_checkIndex_8e157 16 = .ok (.iload_n 0, 1) := by decide +kernel
theorem dJ3_checkIndex_8e157_17 : decode cJ3_checkIndex_8e157 17 = .ok (.ireturn, 1) := by decide +kernel
end
section
theorem dX7_init_0 : decode cX7_init 0 = .ok (.aload_n 0, 1) := by decide +kernel
theorem dX7_init_1 : decode cX7_init 1 = .ok (.invokespecial 1, 3) := by decide +kernel
theorem dX7_init_4 : decode cX7_init 4 = .ok (.aload_n 0, 1) := by decide +kernel
theorem dX7_init_5 : decode cX7_init 5 = .ok (.sipush 300, 3) := by decide +kernel
theorem dX7_init_8 : decode cX7_init 8 = .ok (.newarray .int, 2) := by decide +kernel
theorem dX7_init_10 : decode cX7_init 10 = .ok (.putfield 7, 3) := by decide +kernel
theorem dX7_init_13 : decode cX7_init 13 = .ok (.aload_n 0, 1) := by decide +kernel
theorem dX7_init_14 : decode cX7_init 14 = .ok (.bipush 24, 2) := by decide +kernel
theorem dX7_init_16 : decode cX7_init 16 = .ok (.newarray .int, 2) := by decide +kernel
theorem dX7_init_18 : decode cX7_init 18 = .ok (.putfield 13, 3) := by decide +kernel
theorem dX7_init_21 : decode cX7_init 21 = .ok (.aload_n 0, 1) := by decide +kernel
theorem dX7_init_22 : decode cX7_init 22 = .ok (.bipush 24, 2) := by decide +kernel
theorem dX7_init_24 : decode cX7_init 24 = .ok (.newarray .int, 2) := by decide +kernel
theorem dX7_init_26 : decode cX7_init 26 = .ok (.putfield 16, 3) := by decide +kernel
theorem dX7_init_29 : decode cX7_init 29 = .ok (.aload_n 0, 1) := by decide +kernel
theorem dX7_init_30 : decode cX7_init 30 = .ok (.bipush 8, 2) := by decide +kernel
theorem dX7_init_32 : decode cX7_init 32 = .ok (.newarray .int, 2) := by decide +kernel
theorem dX7_init_34 : decode cX7_init 34 = .ok (.putfield 19, 3) := by decide +kernel
theorem dX7_init_37 : decode cX7_init 37 = .ok (.aload_n 0, 1) := by decide +kernel
theorem dX7_init_38 : decode cX7_init 38 = .ok (.bipush 8, 2) := by decide +kernel
theorem dX7_init_40 : decode cX7_init 40 = .ok (.newarray .int, 2) := by decide +kernel
theorem dX7_init_42 : decode cX7_init 42 = .ok (.putfield 22, 3) := by decide +kernel
theorem dX7_init_45 : decode cX7_init 45 = .ok (.aload_n 0, 1) := by decide +kernel
theorem dX7_init_46 : decode cX7_init 46 = .ok (.bipush 76, 2) := by decide +kernel
theorem dX7_init_48 : decode cX7_init 48 = .ok (.newarray .int, 2) := by decide +kernel
theorem dX7_init_50 : decode cX7_init 50 = .ok (.putfield 25, 3) := by decide +kernel
theorem dX7_init_53 : decode cX7_init 53 = .ok (.aload_n 0, 1) := by decide +kernel
theorem dX7_init_54 : decode cX7_init 54 = .ok (.sipush 152, 3) := by decide +kernel
theorem dX7_init_57 : decode cX7_init 57 = .ok (.newarray .int, 2) := by decide +kernel
theorem dX7_init_59 : decode cX7_init 59 = .ok (.putfield 28, 3) := by decide +kernel
theorem dX7_init_62 : decode cX7_init 62 = .ok (.aload_n 0, 1) := by decide +kernel
theorem dX7_init_63 : decode cX7_init 63 = .ok (.iconst 2, 1) := by decide +kernel
theorem dX7_init_64 : decode cX7_init 64 = .ok (.newarray .boolean, 2) := by decide +kernel
theorem dX7_init_66 : decode cX7_init 66 = .ok (.putfield 31, 3) := by decide +kernel
theorem dX7_init_69 : decode cX7_init 69 = .ok (.aload_n 0, 1) := by decide +kernel
theorem dX7_init_70 : decode cX7_init 70 = .ok (.bipush 24, 2) := by decide +kernel
theorem dX7_init_72 : decode cX7_init 72 = .ok (.newarray .int, 2) := by decide +kernel
theorem dX7_init_74 : decode cX7_init 74 = .ok (.putfield 35, 3) := by decide +kernel
theorem dX7_init_77 : decode cX7_init 77 = .ok (.aload_n 0, 1) := by decide +kernel
theorem dX7_init_78 : decode cX7_init 78 = .ok (.bipush 24, 2) := by decide +kernel
theorem dX7_init_80 : decode cX7_init 80 = .ok (.newarray .int, 2) := by decide +kernel
theorem dX7_init_82 : decode cX7_init 82 = .ok (.putfield 38, 3) := by decide +kernel
theorem dX7_init_85 : decode cX7_init 85 = .ok (.aload_n 0, 1) := by decide +kernel
theorem dX7_init_86 : decode cX7_init 86 = .ok (.bipush 24, 2) := by decide +kernel
theorem dX7_init_88 : decode cX7_init 88 = .ok (.newarray .int, 2) := by decide +kernel
theorem dX7_init_90 : decode cX7_init 90 = .ok (.putfield 41, 3) := by decide +kernel
theorem dX7_init_93 : decode cX7_init 93 = .ok (.aload_n 0, 1) := by decide +kernel
theorem dX7_init_94 : decode cX7_init 94 = .ok (.sipush 256, 3) := by decide +kernel
theorem dX7_init_97 : decode cX7_init 97 = .ok (.newarray .int, 2) := by decide +kernel
theorem dX7_init_99 : decode cX7_init 99 = .ok (.putfield 44, 3) := by decide +kernel
theorem dX7_init_102 : decode cX7_init 102 = .ok (.aload_n 0, 1) := by decide +kernel
theorem dX7_init_103 : decode cX7_init 103 = .ok (.iconst 0, 1) := by decide +kernel
theorem dX7_init_104 : decode cX7_init 104 = .ok (.putfield 47, 3) := by decide +kernel
theorem dX7_init_107 : decode cX7_init 107 = .ok (.return_, 1) := by decide +kernel
theorem dX7_in_0 : decode cX7_in 0 = .ok (.iload_n 0, 1) := by decide +kernel
theorem dX7_in_1 : decode cX7_in 1 = .ok (.iload_n 1, 1) := by decide +kernel
theorem dX7_in_2 : decode cX7_in 2 = .ok (.if_icmp .lt 12, 3) := by decide +kernel
theorem dX7_in_5 : decode cX7_in 5 = .ok (.iload_n 0, 1) := by decide +kernel
theorem dX7_in_6 : decode cX7_in 6 = .ok (.iload_n 2, 1) := by decide +kernel
theorem dX7_in_7 : decode cX7_in 7 = .ok (.if_icmp .gt 7, 3) := by decide +kernel
theorem dX7_in_10 : decode cX7_in 10 = .ok (.iconst 1, 1) := by decide +kernel
theorem dX7_in_11 : decode cX7_in 11 = .ok (.goto 4, 3) := by decide +kernel
theorem dX7_in_14 : decode cX7_in 14 = .ok (.iconst 0, 1) := by decide +kernel
theorem dX7_in_15 : decode cX7_in 15 = .ok (.ireturn, 1) := by decide +kernel
theorem dX7_isCell_0 : decode cX7_isCell 0 = .ok (.iload_n 1, 1) := by decide +kernel
theorem dX7_isCell_1 : decode cX7_isCell 1 = .ok (.iconst 0, 1) := by decide +kernel
theorem dX7_isCell_2 : decode cX7_isCell 2 = .ok (.aload_n 0, 1) := by decide +kernel
theorem dX7_isCell_3 : decode cX7_isCell 3 = .ok (.getfield 51, 3) := by decide +kernel
theorem dX7_isCell_6 : decode cX7_isCell 6 = .ok (.aload_n 0, 1) := by decide +kernel
theorem dX7_isCell_7 : decode cX7_isCell 7 = .ok (.getfield 54, 3) := by decide +kernel
theorem dX7_isCell_10 : decode cX7_isCell 10 = .ok (.imul, 1) := by decide +kernel
theorem dX7_isCell_11 : decode cX7_isCell 11 = .ok (.iconst 1, 1) := by decide +kernel
theorem dX7_isCell_12 : decode cX7_isCell 12 = .ok (.isub, 1) := by decide +kernel
theorem dX7_isCell_13 : decode cX7_isCell 13 = .ok (.invokestatic 57, 3) := by decide +kernel
theorem dX7_isCell_16 : decode cX7_isCell 16 = .ok (.ireturn, 1) := by decide +kernel
theorem dX7_isWalker_0 : decode cX7_isWalker 0 = .ok (.iload_n 1, 1) := by decide +kernel
theorem dX7_isWalker_1 : decode cX7_isWalker 1 = .ok (.iconst 0, 1) := by decide +kernel
theorem dX7_isWalker_2 : decode cX7_isWalker 2 = .ok (.aload_n 0, 1) := by decide +kernel
theorem dX7_isWalker_3 : decode cX7_isWalker 3 = .ok (.getfield 61, 3) := by decide +kernel
theorem dX7_isWalker_6 : decode cX7_isWalker 6 = .ok (.iconst 1, 1) := by decide +kernel
theorem dX7_isWalker_7 : decode cX7_isWalker 7 = .ok (.isub, 1) := by decide +kernel
theorem dX7_isWalker_8 : decode cX7_isWalker 8 = .ok (.invokestatic 57, 3) := by decide +kernel
theorem dX7_isWalker_11 : decode cX7_isWalker 11 = .ok (.ireturn, 1) := by decide +kernel
theorem dX7_type_0 : decode cX7_type 0 = .ok (.aload_n 0, 1) := by decide +kernel
theorem dX7_type_1 : decode cX7_type 1 = .ok (.iconst 0, 1) := by decide +kernel
theorem dX7_type_2 : decode cX7_type 2 = .ok (.putfield 47, 3) := by decide +kernel
theorem dX7_type_5 : decode cX7_type 5 = .ok (.iload_n 3, 1) := by decide +kernel
theorem dX7_type_6 : decode cX7_type 6 = .ok (.iconst 1, 1) := by decide +kernel
theorem dX7_type_7 : decode cX7_type 7 = .ok (.bipush 8, 2) := by decide +kernel
theorem dX7_type_9 : decode cX7_type 9 = .ok (.invokestatic 57, 3) := by decide +kernel
theorem dX7_type_12 : decode cX7_type 12 = .ok (.ifCond .ne 5, 3) := by decide +kernel
theorem dX7_type_15 : decode cX7_type 15 = .ok (.iconst (-1), 1) := by decide +kernel
theorem dX7_type_16 : decode cX7_type 16 = .ok (.ireturn, 1) := by decide +kernel
theorem dX7_type_17 : decode cX7_type 17 = .ok (.aload_n 0, 1) := by decide +kernel
theorem dX7_type_18 : decode cX7_type 18 = .ok (.getfield 64, 3) := by decide +kernel
theorem dX7_type_21 : decode cX7_type 21 = .ok (.iload_n 3, 1) := by decide +kernel
theorem dX7_type_22 : decode cX7_type 22 = .ok (.iadd, 1) := by decide +kernel
theorem dX7_type_23 : decode cX7_type 23 = .ok (.sipush 300, 3) := by decide +kernel
theorem dX7_type_26 : decode cX7_type 26 = .ok (.if_icmp .le 6, 3) := by decide +kernel
theorem dX7_type_29 : decode cX7_type 29 = .ok (.bipush (-3), 2) := by decide +kernel
theorem dX7_type_31 : decode cX7_type 31 = .ok (.ireturn, 1) := by decide +kernel
theorem dX7_type_32 : decode cX7_type 32 = .ok (.iload_n 3, 1) := by decide +kernel
theorem dX7_type_33 : decode cX7_type 33 = .ok (.iconst 1, 1) := by decide +kernel
theorem dX7_type_34 : decode cX7_type 34 = .ok (.isub, 1) := by decide +kernel
theorem dX7_type_35 : decode cX7_type 35 = .ok (.istore 4, 2) := by decide +kernel
theorem dX7_type_37 : decode cX7_type 37 = .ok (.iload 4, 2) := by decide +kernel
theorem dX7_type_39 : decode cX7_type 39 = .ok (.ifCond .lt 40, 3) := by decide +kernel
theorem dX7_type_42 : decode cX7_type 42 = .ok (.aload_n 0, 1) := by decide +kernel
theorem dX7_type_43 : decode cX7_type 43 = .ok (.getfield 7, 3) := by decide +kernel
theorem dX7_type_46 : decode cX7_type 46 = .ok (.aload_n 0, 1) := by decide +kernel
theorem dX7_type_47 : decode cX7_type 47 = .ok (.getfield 64, 3) := by decide +kernel
theorem dX7_type_50 : decode cX7_type 50 = .ok (.lload_n 1, 1) := by decide +kernel
theorem dX7_type_51 : decode cX7_type 51 = .ok (.bipush 8, 2) := by decide +kernel
theorem dX7_type_53 : decode cX7_type 53 = .ok (.iload 4, 2) := by decide +kernel
theorem dX7_type_55 : decode cX7_type 55 = .ok (.imul, 1) := by decide +kernel
theorem dX7_type_56 : decode cX7_type 56 = .ok (.lshr, 1) := by decide +kernel
theorem dX7_type_57 : decode cX7_type 57 = .ok (.ldc2_w 67, 3) := by decide +kernel
theorem dX7_type_60 : decode cX7_type 60 = .ok (.land, 1) := by decide +kernel
theorem dX7_type_61 : decode cX7_type 61 = .ok (.l2i, 1) := by decide +kernel
theorem dX7_type_62 : decode cX7_type 62 = .ok (.iastore, 1) := by decide +kernel
theorem dX7_type_63 : decode cX7_type 63 = .ok (.aload_n 0, 1) := by decide +kernel
theorem dX7_type_64 : decode cX7_type 64 = .ok (.dup, 1) := by decide +kernel
theorem dX7_type_65 : decode cX7_type 65 = .ok (.getfield 64, 3) := by decide +kernel
theorem dX7_type_68 : decode cX7_type 68 = .ok (.iconst 1, 1) := by decide +kernel
theorem dX7_type_69 : decode cX7_type 69 = .ok (.iadd, 1) := by decide +kernel
theorem dX7_type_70 : decode cX7_type 70 = .ok (.putfield 64, 3) := by decide +kernel
theorem dX7_type_73 : decode cX7_type 73 = .ok (.iinc 4 (-1), 3) := by decide +kernel
theorem dX7_type_76 : decode cX7_type 76 = .ok (.goto (-39), 3) := by decide +kernel
theorem dX7_type_79 : decode cX7_type 79 = .ok (.aload_n 0, 1) := by decide +kernel
theorem dX7_type_80 : decode cX7_type 80 = .ok (.getfield 64, 3) := by decide +kernel
theorem dX7_type_83 : decode cX7_type 83 = .ok (.ireturn, 1) := by decide +kernel
theorem dX7_clear_0 : decode cX7_clear 0 = .ok (.aload_n 0, 1) := by decide +kernel
theorem dX7_clear_1 : decode cX7_clear 1 = .ok (.iconst 0, 1) := by decide +kernel
theorem dX7_clear_2 : decode cX7_clear 2 = .ok (.putfield 47, 3) := by decide +kernel
theorem dX7_clear_5 : decode cX7_clear 5 = .ok (.aload_n 0, 1) := by decide +kernel
theorem dX7_clear_6 : decode cX7_clear 6 = .ok (.getfield 64, 3) := by decide +kernel
theorem dX7_clear_9 : decode cX7_clear 9 = .ok (.istore_n 1, 1) := by decide +kernel
theorem dX7_clear_10 : decode cX7_clear 10 = .ok (.aload_n 0, 1) := by decide +kernel
theorem dX7_clear_11 : decode cX7_clear 11 = .ok (.iconst 0, 1) := by decide +kernel
theorem dX7_clear_12 : decode cX7_clear 12 = .ok (.putfield 64, 3) := by decide +kernel
theorem dX7_clear_15 : decode cX7_clear 15 = .ok (.iload_n 1, 1) := by decide +kernel
theorem dX7_clear_16 : decode cX7_clear 16 = .ok (.ireturn, 1) := by decide +kernel
theorem dX7_byteAt_0 : decode cX7_byteAt 0 = .ok (.iload_n 1, 1) := by decide +kernel
theorem dX7_byteAt_1 : decode cX7_byteAt 1 = .ok (.aload_n 0, 1) := by decide +kernel
theorem dX7_byteAt_2 : decode cX7_byteAt 2 = .ok (.getfield 64, 3) := by decide +kernel
theorem dX7_byteAt_5 : decode cX7_byteAt 5 = .ok (.if_icmp .ge 12, 3) := by decide +kernel
theorem dX7_byteAt_8 : decode cX7_byteAt 8 = .ok (.aload_n 0, 1) := by decide +kernel
theorem dX7_byteAt_9 : decode cX7_byteAt 9 = .ok (.getfield 7, 3) := by decide +kernel
theorem dX7_byteAt_12 : decode cX7_byteAt 12 = .ok (.iload_n 1, 1) := by decide +kernel
theorem dX7_byteAt_13 : decode cX7_byteAt 13 = .ok (.iaload, 1) := by decide +kernel
theorem dX7_byteAt_14 : decode cX7_byteAt 14 = .ok (.goto 4, 3) := by decide +kernel
theorem dX7_byteAt_17 : decode cX7_byteAt 17 = .ok (.iconst (-1), 1) := by decide +kernel
theorem dX7_byteAt_18 : decode cX7_byteAt 18 = .ok (.ireturn, 1) := by decide +kernel
theorem dX7_sortOf_0 : decode cX7_sortOf 0 = .ok (.iload_n 0, 1) := by decide +kernel
theorem dX7_sortOf_1 : decode cX7_sortOf 1 = .ok (.ifCond .ge 7, 3) := by decide +kernel
theorem dX7_sortOf_4 : decode cX7_sortOf 4 = .ok (.iconst 0, 1) := by decide +kernel
theorem dX7_sortOf_5 : decode cX7_sortOf 5 = .ok (.goto 44, 3) := by decide +kernel
theorem dX7_sortOf_8 : decode cX7_sortOf 8 = .ok (.iload_n 0, 1) := by decide +kernel
theorem dX7_sortOf_9 : decode cX7_sortOf 9 = .ok (.bipush 97, 2) := by decide +kernel
theorem dX7_sortOf_11 : decode cX7_sortOf 11 = .ok (.bipush 122, 2) := by decide +kernel
theorem dX7_sortOf_13 : decode cX7_sortOf 13 = .ok (.invokestatic 57, 3) := by decide +kernel
theorem dX7_sortOf_16 : decode cX7_sortOf 16 = .ok (.ifCond .eq 7, 3) := by decide +kernel
theorem dX7_sortOf_19 : decode cX7_sortOf 19 = .ok (.iconst 1, 1) := by decide +kernel
theorem dX7_sortOf_20 : decode cX7_sortOf 20 = .ok (.goto 29, 3) := by decide +kernel
theorem dX7_sortOf_23 : decode cX7_sortOf 23 = .ok (.iload_n 0, 1) := by decide +kernel
theorem dX7_sortOf_24 : decode cX7_sortOf 24 = .ok (.bipush 48, 2) := by decide +kernel
theorem dX7_sortOf_26 : decode cX7_sortOf 26 = .ok (.bipush 57, 2) := by decide +kernel
theorem dX7_sortOf_28 : decode cX7_sortOf 28 = .ok (.invokestatic 57, 3) := by decide +kernel
theorem dX7_sortOf_31 : decode cX7_sortOf 31 = .ok (.ifCond .eq 7, 3) := by decide +kernel
theorem dX7_sortOf_34 : decode cX7_sortOf 34 = .ok (.iconst 2, 1) := by decide +kernel
theorem dX7_sortOf_35 : decode cX7_sortOf 35 = .ok (.goto 14, 3) := by decide +kernel
theorem dX7_sortOf_38 : decode cX7_sortOf 38 = .ok (.iload_n 0, 1) := by decide +kernel
theorem dX7_sortOf_39 : decode cX7_sortOf 39 = .ok (.bipush 59, 2) := by decide +kernel
theorem dX7_sortOf_41 : decode cX7_sortOf 41 = .ok (.if_icmp .ne 7, 3) := by decide +kernel
theorem dX7_sortOf_44 : decode cX7_sortOf 44 = .ok (.iconst 3, 1) := by decide +kernel
theorem dX7_sortOf_45 : decode cX7_sortOf 45 = .ok (.goto 4, 3) := by decide +kernel
theorem dX7_sortOf_48 : decode cX7_sortOf 48 = .ok (.iconst 4, 1) := by decide +kernel
theorem dX7_sortOf_49 : decode cX7_sortOf 49 = .ok (.ireturn, 1) := by decide +kernel
theorem dX7_token_0 : decode cX7_token 0 = .ok (.aload_n 0, 1) := by decide +kernel
theorem dX7_token_1 : decode cX7_token 1 = .ok (.aload_n 0, 1) := by decide +kernel
theorem dX7_token_2 : decode cX7_token 2 = .ok (.getfield 69, 3) := by decide +kernel
theorem dX7_token_5 : decode cX7_token 5 = .ok (.invokevirtual 72, 3) := by decide +kernel
theorem dX7_token_8 : decode cX7_token 8 = .ok (.bipush 32, 2) := by decide +kernel
theorem dX7_token_10 : decode cX7_token 10 = .ok (.if_icmp .ne 16, 3) := by decide +kernel
theorem dX7_token_13 : decode cX7_token 13 = .ok (.aload_n 0, 1) := by decide +kernel
theorem dX7_token_14 : decode cX7_token 14 = .ok (.dup, 1) := by decide +kernel
theorem dX7_token_15 : decode cX7_token 15 = .ok (.getfield 69, 3) := by decide +kernel
theorem dX7_token_18 : decode cX7_token 18 = .ok (.iconst 1, 1) := by decide +kernel
theorem dX7_token_19 : decode cX7_token 19 = .ok (.iadd, 1) := by decide +kernel
theorem dX7_token_20 : decode cX7_token 20 = .ok (.putfield 69, 3) := by decide +kernel
theorem dX7_token_23 : decode cX7_token 23 = .ok (.goto (-23), 3) := by decide +kernel
theorem dX7_token_26 : decode cX7_token 26 = .ok (.aload_n 0, 1) := by decide +kernel
theorem dX7_token_27 : decode cX7_token 27 = .ok (.aload_n 0, 1) := by decide +kernel
theorem dX7_token_28 : decode cX7_token 28 = .ok (.getfield 69, 3) := by decide +kernel
theorem dX7_token_31 : decode cX7_token 31 = .ok (.putfield 76, 3) := by decide +kernel
theorem dX7_token_34 : decode cX7_token 34 = .ok (.aload_n 0, 1) := by decide +kernel
theorem dX7_token_35 : decode cX7_token 35 = .ok (.aload_n 0, 1) := by decide +kernel
theorem dX7_token_36 : decode cX7_token 36 = .ok (.aload_n 0, 1) := by decide +kernel
theorem dX7_token_37 : decode cX7_token 37 = .ok (.getfield 69, 3) := by decide +kernel
theorem dX7_token_40 : decode cX7_token 40 = .ok (.invokevirtual 72, 3) := by decide +kernel
theorem dX7_token_43 : decode cX7_token 43 = .ok (.invokestatic 79, 3) := by decide +kernel
theorem dX7_token_46 : decode cX7_token 46 = .ok (.putfield 82, 3) := by decide +kernel
theorem dX7_token_49 : decode cX7_token 49 = .ok (.aload_n 0, 1) := by decide +kernel
theorem dX7_token_50 : decode cX7_token 50 = .ok (.iconst 0, 1) := by decide +kernel
theorem dX7_token_51 : decode cX7_token 51 = .ok (.putfield 85, 3) := by decide +kernel
theorem dX7_token_54 : decode cX7_token 54 = .ok (.aload_n 0, 1) := by decide +kernel
theorem dX7_token_55 : decode cX7_token 55 = .ok (.getfield 85, 3) := by decide +kernel
theorem dX7_token_58 : decode cX7_token 58 = .ok (.ifCond .ne 10, 3) := by decide +kernel
theorem dX7_token_61 : decode cX7_token 61 = .ok (.aload_n 0, 1) := by decide +kernel
theorem dX7_token_62 : decode cX7_token 62 = .ok (.getfield 82, 3) := by decide +kernel
theorem dX7_token_65 : decode cX7_token 65 = .ok (.ifCond .ne 37, 3) := by decide +kernel
theorem dX7_token_68 : decode cX7_token 68 = .ok (.aload_n 0, 1) := by decide +kernel
theorem dX7_token_69 : decode cX7_token 69 = .ok (.getfield 82, 3) := by decide +kernel
theorem dX7_token_72 : decode cX7_token 72 = .ok (.iconst 1, 1) := by decide +kernel
theorem dX7_token_73 : decode cX7_token 73 = .ok (.if_icmp .eq 11, 3) := by decide +kernel
theorem dX7_token_76 : decode cX7_token 76 = .ok (.aload_n 0, 1) := by decide +kernel
theorem dX7_token_77 : decode cX7_token 77 = .ok (.getfield 82, 3) := by decide +kernel
theorem dX7_token_80 : decode cX7_token 80 = .ok (.iconst 2, 1) := by decide +kernel
theorem dX7_token_81 : decode cX7_token 81 = .ok (.if_icmp .ne 44, 3) := by decide +kernel
theorem dX7_token_84 : decode cX7_token 84 = .ok (.aload_n 0, 1) := by decide +kernel
theorem dX7_token_85 : decode cX7_token 85 = .ok (.aload_n 0, 1) := by decide +kernel
theorem dX7_token_86 : decode cX7_token 86 = .ok (.getfield 69, 3) := by decide +kernel
theorem dX7_token_89 : decode cX7_token 89 = .ok (.invokevirtual 72, 3) := by decide +kernel
theorem dX7_token_92 : decode cX7_token 92 = .ok (.invokestatic 79, 3) := by decide +kernel
theorem dX7_token_95 : decode cX7_token 95 = .ok (.aload_n 0, 1) := by decide +kernel
theorem dX7_token_96 : decode cX7_token 96 = .ok (.getfield 82, 3) := by decide +kernel
theorem dX7_token_99 : decode cX7_token 99 = .ok (.if_icmp .ne 26, 3) := by decide +kernel
theorem dX7_token_102 : decode cX7_token 102 = .ok (.aload_n 0, 1) := by decide +kernel
theorem dX7_token_103 : decode cX7_token 103 = .ok (.dup, 1) := by decide +kernel
theorem dX7_token_104 : decode cX7_token 104 = .ok (.getfield 69, 3) := by decide +kernel
theorem dX7_token_107 : decode cX7_token 107 = .ok (.iconst 1, 1) := by decide +kernel
theorem dX7_token_108 : decode cX7_token 108 = .ok (.iadd, 1) := by decide +kernel
theorem dX7_token_109 : decode cX7_token 109 = .ok (.putfield 69, 3) := by decide +kernel
theorem dX7_token_112 : decode cX7_token 112 = .ok (.aload_n 0, 1) := by decide +kernel
theorem dX7_token_113 : decode cX7_token 113 = .ok (.dup, 1) := by decide +kernel
theorem dX7_token_114 : decode cX7_token 114 = .ok (.getfield 85, 3) := by decide +kernel
theorem dX7_token_117 : decode cX7_token 117 = .ok (.iconst 1, 1) := by decide +kernel
theorem dX7_token_118 : decode cX7_token 118 = .ok (.iadd, 1) := by decide +kernel
theorem dX7_token_119 : decode cX7_token 119 = .ok (.putfield 85, 3) := by decide +kernel
theorem dX7_token_122 : decode cX7_token 122 = .ok (.goto (-68), 3) := by decide +kernel
theorem dX7_token_125 : decode cX7_token 125 = .ok (.return_, 1) := by decide +kernel
theorem dX7_verb_0 : decode cX7_verb 0 = .ok (.lconst 0, 1) := by decide +kernel
theorem dX7_verb_1 : decode cX7_verb 1 = .ok (.lstore_n 1, 1) := by decide +kernel
theorem dX7_verb_2 : decode cX7_verb 2 = .ok (.iconst 0, 1) := by decide +kernel
theorem dX7_verb_3 : decode cX7_verb 3 = .ok (.istore_n 3, 1) := by decide +kernel
theorem dX7_verb_4 : decode cX7_verb 4 = .ok (.iload_n 3, 1) := by decide +kernel
theorem dX7_verb_5 : decode cX7_verb 5 = .ok (.aload_n 0, 1) := by decide +kernel
theorem dX7_verb_6 : decode cX7_verb 6 = .ok (.getfield 85, 3) := by decide +kernel
theorem dX7_verb_9 : decode cX7_verb 9 = .ok (.if_icmp .ge 41, 3) := by decide +kernel
theorem dX7_verb_12 : decode cX7_verb 12 = .ok (.iload_n 3, 1) := by decide +kernel
theorem dX7_verb_13 : decode cX7_verb 13 = .ok (.bipush 7, 2) := by decide +kernel
theorem dX7_verb_15 : decode cX7_verb 15 = .ok (.if_icmp .ge 35, 3) := by decide +kernel
theorem dX7_verb_18 : decode cX7_verb 18 = .ok (.aload_n 0, 1) := by decide +kernel
theorem dX7_verb_19 : decode cX7_verb 19 = .ok (.getfield 82, 3) := by decide +kernel
theorem dX7_verb_22 : decode cX7_verb 22 = .ok (.iconst 1, 1) := by decide +kernel
theorem dX7_verb_23 : decode cX7_verb 23 = .ok (.if_icmp .ne 27, 3) := by decide +kernel
theorem dX7_verb_26 : decode cX7_verb 26 = .ok (.ldc2_w 88, 3) := by decide +kernel
theorem dX7_verb_29 : decode cX7_verb 29 = .ok (.lload_n 1, 1) := by decide +kernel
theorem dX7_verb_30 : decode cX7_verb 30 = .ok (.lmul, 1) := by decide +kernel
theorem dX7_verb_31 : decode cX7_verb 31 = .ok (.aload_n 0, 1) := by decide +kernel
theorem dX7_verb_32 : decode cX7_verb 32 = .ok (.aload_n 0, 1) := by decide +kernel
theorem dX7_verb_33 : decode cX7_verb 33 = .ok (.getfield 76, 3) := by decide +kernel
theorem dX7_verb_36 : decode cX7_verb 36 = .ok (.iload_n 3, 1) := by decide +kernel
theorem dX7_verb_37 : decode cX7_verb 37 = .ok (.iadd, 1) := by decide +kernel
theorem dX7_verb_38 : decode cX7_verb 38 = .ok (.invokevirtual 72, 3) := by decide +kernel
theorem dX7_verb_41 : decode cX7_verb 41 = .ok (.i2l, 1) := by decide +kernel
theorem dX7_verb_42 : decode cX7_verb 42 = .ok (.ladd, 1) := by decide +kernel
theorem dX7_verb_43 : decode cX7_verb 43 = .ok (.lstore_n 1, 1) := by decide +kernel
theorem dX7_verb_44 : decode cX7_verb 44 = .ok (.iinc 3 1, 3) := by decide +kernel
theorem dX7_verb_47 : decode cX7_verb 47 = .ok (.goto (-43), 3) := by decide +kernel
theorem dX7_verb_50 : decode cX7_verb 50 = .ok (.lload_n 1, 1) := by decide +kernel
theorem dX7_verb_51 : decode cX7_verb 51 = .ok (.ldc2_w 90, 3) := by decide +kernel
theorem dX7_verb_54 : decode cX7_verb 54 = .ok (.lcmp, 1) := by decide +kernel
theorem dX7_verb_55 : decode cX7_verb 55 = .ok (.ifCond .ne 7, 3) := by decide +kernel
theorem dX7_verb_58 : decode cX7_verb 58 = .ok (.iconst 0, 1) := by decide +kernel
theorem dX7_verb_59 : decode cX7_verb 59 = .ok (.goto 29, 3) := by decide +kernel
theorem dX7_verb_62 : decode cX7_verb 62 = .ok (.lload_n 1, 1) := by decide +kernel
theorem dX7_verb_63 : decode cX7_verb 63 = .ok (.ldc2_w 92, 3) := by decide +kernel
theorem dX7_verb_66 : decode cX7_verb 66 = .ok (.lcmp, 1) := by decide +kernel
theorem dX7_verb_67 : decode cX7_verb 67 = .ok (.ifCond .ne 7, 3) := by decide +kernel
theorem dX7_verb_70 : decode cX7_verb 70 = .ok (.iconst 1, 1) := by decide +kernel
theorem dX7_verb_71 : decode cX7_verb 71 = .ok (.goto 17, 3) := by decide +kernel
theorem dX7_verb_74 : decode cX7_verb 74 = .ok (.lload_n 1, 1) := by decide +kernel
theorem dX7_verb_75 : decode cX7_verb 75 = .ok (.ldc2_w 94, 3) := by decide +kernel
theorem dX7_verb_78 : decode cX7_verb 78 = .ok (.lcmp, 1) := by decide +kernel
theorem dX7_verb_79 : decode cX7_verb 79 = .ok (.ifCond .ne 7, 3) := by decide +kernel
theorem dX7_verb_82 : decode cX7_verb 82 = .ok (.iconst 2, 1) := by decide +kernel
theorem dX7_verb_83 : decode cX7_verb 83 = .ok (.goto 5, 3) := by decide +kernel
theorem dX7_verb_86 : decode cX7_verb 86 = .ok (.bipush (-9), 2) := by decide +kernel
theorem dX7_verb_88 : decode cX7_verb 88 = .ok (.ireturn, 1) := by decide +kernel
theorem dX7_number_0 : decode cX7_number 0 = .ok (.aload_n 0, 1) := by decide +kernel
theorem dX7_number_1 : decode cX7_number 1 = .ok (.invokevirtual 96, 3) := by decide +kernel
theorem dX7_number_4 : decode cX7_number 4 = .ok (.aload_n 0, 1) := by decide +kernel
theorem dX7_number_5 : decode cX7_number 5 = .ok (.getfield 82, 3) := by decide +kernel
theorem dX7_number_8 : decode cX7_number 8 = .ok (.iconst 2, 1) := by decide +kernel
theorem dX7_number_9 : decode cX7_number 9 = .ok (.if_icmp .ne 32, 3) := by decide +kernel
theorem dX7_number_12 : decode cX7_number 12 = .ok (.aload_n 0, 1) := by decide +kernel
theorem dX7_number_13 : decode cX7_number 13 = .ok (.getfield 85, 3) := by decide +kernel
theorem dX7_number_16 : decode cX7_number 16 = .ok (.iconst 2, 1) := by decide +kernel
theorem dX7_number_17 : decode cX7_number 17 = .ok (.if_icmp .gt 24, 3) := by decide +kernel
theorem dX7_number_20 : decode cX7_number 20 = .ok (.aload_n 0, 1) := by decide +kernel
theorem dX7_number_21 : decode cX7_number 21 = .ok (.getfield 85, 3) := by decide +kernel
theorem dX7_number_24 : decode cX7_number 24 = .ok (.iconst 2, 1) := by decide +kernel
theorem dX7_number_25 : decode cX7_number 25 = .ok (.if_icmp .ne 19, 3) := by decide +kernel
theorem dX7_number_28 : decode cX7_number 28 = .ok (.aload_n 0, 1) := by decide +kernel
theorem dX7_number_29 : decode cX7_number 29 = .ok (.aload_n 0, 1) := by decide +kernel
theorem dX7_number_30 : decode cX7_number 30 = .ok (.getfield 76, 3) := by decide +kernel
theorem dX7_number_33 : decode cX7_number 33 = .ok (.invokevirtual 72, 3) := by decide +kernel
theorem dX7_number_36 : decode cX7_number 36 = .ok (.bipush 48, 2) := by decide +kernel
theorem dX7_number_38 : decode cX7_number 38 = .ok (.if_icmp .ne 6, 3) := by decide +kernel
theorem dX7_number_41 : decode cX7_number 41 = .ok (.bipush (-9), 2) := by decide +kernel
theorem dX7_number_43 : decode cX7_number 43 = .ok (.ireturn, 1) := by decide +kernel
theorem dX7_number_44 : decode cX7_number 44 = .ok (.aload_n 0, 1) := by decide +kernel
theorem dX7_number_45 : decode cX7_number 45 = .ok (.aload_n 0, 1) := by decide +kernel
theorem dX7_number_46 : decode cX7_number 46 = .ok (.getfield 76, 3) := by decide +kernel
theorem dX7_number_49 : decode cX7_number 49 = .ok (.invokevirtual 72, 3) := by decide +kernel
theorem dX7_number_52 : decode cX7_number 52 = .ok (.bipush 48, 2) := by decide +kernel
theorem dX7_number_54 : decode cX7_number 54 = .ok (.isub, 1) := by decide +kernel
theorem dX7_number_55 : decode cX7_number 55 = .ok (.istore_n 2, 1) := by decide +kernel
theorem dX7_number_56 : decode cX7_number 56 = .ok (.aload_n 0, 1) := by decide +kernel
theorem dX7_number_57 : decode cX7_number 57 = .ok (.getfield 85, 3) := by decide +kernel
theorem dX7_number_60 : decode cX7_number 60 = .ok (.iconst 2, 1) := by decide +kernel
theorem dX7_number_61 : decode cX7_number 61 = .ok (.if_icmp .ne 24, 3) := by decide +kernel
theorem dX7_number_64 : decode cX7_number 64 = .ok (.bipush 10, 2) := by decide +kernel
theorem dX7_number_66 : decode cX7_number 66 = .ok (.iload_n 2, 1) := by decide +kernel
theorem dX7_number_67 : decode cX7_number 67 = .ok (.imul, 1) := by decide +kernel
theorem dX7_number_68 : decode cX7_number 68 = .ok (.aload_n 0, 1) := by decide +kernel
theorem dX7_number_69 : decode cX7_number 69 = .ok (.aload_n 0, 1) := by decide +kernel
theorem dX7_number_70 : decode cX7_number 70 = .ok (.getfield 76, 3) := by decide +kernel
theorem dX7_number_73 : decode cX7_number 73 = .ok (.iconst 1, 1) := by decide +kernel
theorem dX7_number_74 : decode cX7_number 74 = .ok (.iadd, 1) := by decide +kernel
theorem dX7_number_75 : decode cX7_number 75 = .ok (.invokevirtual 72, 3) := by decide +kernel
theorem dX7_number_78 : decode cX7_number 78 = .ok (.iadd, 1) := by decide +kernel
theorem dX7_number_79 : decode cX7_number 79 = .ok (.bipush 48, 2) := by decide +kernel
theorem dX7_number_81 : decode cX7_number 81 = .ok (.isub, 1) := by decide +kernel
theorem dX7_number_82 : decode cX7_number 82 = .ok (.goto 4, 3) := by decide +kernel
theorem dX7_number_85 : decode cX7_number 85 = .ok (.iload_n 2, 1) := by decide +kernel
theorem dX7_number_86 : decode cX7_number 86 = .ok (.istore_n 2, 1) := by decide +kernel
theorem dX7_number_87 : decode cX7_number 87 = .ok (.iload_n 2, 1) := by decide +kernel
theorem dX7_number_88 : decode cX7_number 88 = .ok (.iload_n 1, 1) := by decide +kernel
theorem dX7_number_89 : decode cX7_number 89 = .ok (.if_icmp .gt 7, 3) := by decide +kernel
theorem dX7_number_92 : decode cX7_number 92 = .ok (.iload_n 2, 1) := by decide +kernel
theorem dX7_number_93 : decode cX7_number 93 = .ok (.goto 5, 3) := by decide +kernel
theorem dX7_number_96 : decode cX7_number 96 = .ok (.bipush (-9), 2) := by decide +kernel
theorem dX7_number_98 : decode cX7_number 98 = .ok (.ireturn, 1) := by decide +kernel
theorem dX7_readsRow_0 : decode cX7_readsRow 0 = .ok (.aload_n 0, 1) := by decide +kernel
theorem dX7_readsRow_1 : decode cX7_readsRow 1 = .ok (.getfield 99, 3) := by decide +kernel
theorem dX7_readsRow_4 : decode cX7_readsRow 4 = .ok (.iconst 4, 1) := by decide +kernel
theorem dX7_readsRow_5 : decode cX7_readsRow 5 = .ok (.if_icmp .eq 10, 3) := by decide +kernel
theorem dX7_readsRow_8 : decode cX7_readsRow 8 = .ok (.aload_n 0, 1) := by decide +kernel
theorem dX7_readsRow_9 : decode cX7_readsRow 9 = .ok (.getfield 102, 3) := by decide +kernel
theorem dX7_readsRow_12 : decode cX7_readsRow 12 = .ok (.ifCond .le 5, 3) := by decide +kernel
theorem dX7_readsRow_15 : decode cX7_readsRow 15 = .ok (.iconst 0, 1) := by decide +kernel
theorem dX7_readsRow_16 : decode cX7_readsRow 16 = .ok (.ireturn, 1) := by decide +kernel
theorem dX7_readsRow_17 : decode cX7_readsRow 17 = .ok (.aload_n 0, 1) := by decide +kernel
theorem dX7_readsRow_18 : decode cX7_readsRow 18 = .ok (.invokevirtual 96, 3) := by decide +kernel
theorem dX7_readsRow_21 : decode cX7_readsRow 21 = .ok (.aload_n 0, 1) := by decide +kernel
theorem dX7_readsRow_22 : decode cX7_readsRow 22 = .ok (.getfield 82, 3) := by decide +kernel
theorem dX7_readsRow_25 : decode cX7_readsRow 25 = .ok (.iconst 1, 1) := by decide +kernel
theorem dX7_readsRow_26 : decode cX7_readsRow 26 = .ok (.if_icmp .ne 30, 3) := by decide +kernel
theorem dX7_readsRow_29 : decode cX7_readsRow 29 = .ok (.aload_n 0, 1) := by decide +kernel
theorem dX7_readsRow_30 : decode cX7_readsRow 30 = .ok (.getfield 85, 3) := by decide +kernel
theorem dX7_readsRow_33 : decode cX7_readsRow 33 = .ok (.bipush 6, 2) := by decide +kernel
theorem dX7_readsRow_35 : decode cX7_readsRow 35 = .ok (.if_icmp .gt 21, 3) := by decide +kernel
theorem dX7_readsRow_38 : decode cX7_readsRow 38 = .ok (.aload_n 0, 1) := by decide +kernel
theorem dX7_readsRow_39 : decode cX7_readsRow 39 = .ok (.getfield 99, 3) := by decide +kernel
theorem dX7_readsRow_42 : decode cX7_readsRow 42 = .ok (.ifCond .le 16, 3) := by decide +kernel
theorem dX7_readsRow_45 : decode cX7_readsRow 45 = .ok (.aload_n 0, 1) := by decide +kernel
theorem dX7_readsRow_46 : decode cX7_readsRow 46 = .ok (.getfield 85, 3) := by decide +kernel
theorem dX7_readsRow_49 : decode cX7_readsRow 49 = .ok (.aload_n 0, 1) := by decide +kernel
theorem dX7_readsRow_50 : decode cX7_readsRow 50 = .ok (.getfield 105, 3) := by decide +kernel
theorem dX7_readsRow_53 : decode cX7_readsRow 53 = .ok (.if_icmp .eq 5, 3) := by decide +kernel
theorem dX7_readsRow_56 : decode cX7_readsRow 56 = .ok (.iconst 0, 1) := by decide +kernel
theorem dX7_readsRow_57 : decode cX7_readsRow 57 = .ok (.ireturn, 1) := by decide +kernel
theorem dX7_readsRow_58 : decode cX7_readsRow 58 = .ok (.aload_n 0, 1) := by decide +kernel
theorem dX7_readsRow_59 : decode cX7_readsRow 59 = .ok (.aload_n 0, 1) := by decide +kernel
theorem dX7_readsRow_60 : decode cX7_readsRow 60 = .ok (.getfield 85, 3) := by decide +kernel
theorem dX7_readsRow_63 : decode cX7_readsRow 63 = .ok (.putfield 105, 3) := by decide +kernel
theorem dX7_readsRow_66 : decode cX7_readsRow 66 = .ok (.iconst 1, 1) := by decide +kernel
theorem dX7_readsRow_67 : decode cX7_readsRow 67 = .ok (.istore_n 1, 1) := by decide +kernel
theorem dX7_readsRow_68 : decode cX7_readsRow 68 = .ok (.iconst 0, 1) := by decide +kernel
theorem dX7_readsRow_69 : decode cX7_readsRow 69 = .ok (.istore_n 2, 1) := by decide +kernel
theorem dX7_readsRow_70 : decode cX7_readsRow 70 = .ok (.iload_n 2, 1) := by decide +kernel
theorem dX7_readsRow_71 : decode cX7_readsRow 71 = .ok (.aload_n 0, 1) := by decide +kernel
theorem dX7_readsRow_72 : decode cX7_readsRow 72 = .ok (.getfield 85, 3) := by decide +kernel
theorem dX7_readsRow_75 : decode cX7_readsRow 75 = .ok (.if_icmp .ge 85, 3) := by decide +kernel
theorem dX7_readsRow_78 : decode cX7_readsRow 78 = .ok (.aload_n 0, 1) := by decide +kernel
theorem dX7_readsRow_79 : decode cX7_readsRow 79 = .ok (.aload_n 0, 1) := by decide +kernel
theorem dX7_readsRow_80 : decode cX7_readsRow 80 = .ok (.getfield 76, 3) := by decide +kernel
theorem dX7_readsRow_83 : decode cX7_readsRow 83 = .ok (.iload_n 2, 1) := by decide +kernel
theorem dX7_readsRow_84 : decode cX7_readsRow 84 = .ok (.iadd, 1) := by decide +kernel
theorem dX7_readsRow_85 : decode cX7_readsRow 85 = .ok (.invokevirtual 72, 3) := by decide +kernel
theorem dX7_readsRow_88 : decode cX7_readsRow 88 = .ok (.istore_n 3, 1) := by decide +kernel
theorem dX7_readsRow_89 : decode cX7_readsRow 89 = .ok (.iload_n 1, 1) := by decide +kernel
theorem dX7_readsRow_90 : decode cX7_readsRow 90 = .ok (.ifCond .eq 25, 3) := by decide +kernel
theorem dX7_readsRow_93 : decode cX7_readsRow 93 = .ok (.iload_n 3, 1) := by decide +kernel
theorem dX7_readsRow_94 : decode cX7_readsRow 94 = .ok (.bipush 104, 2) := by decide +kernel
theorem dX7_readsRow_96 : decode cX7_readsRow 96 = .ok (.if_icmp .eq 15, 3) := by decide +kernel
theorem dX7_readsRow_99 : decode cX7_readsRow 99 = .ok (.iload_n 3, 1) := by decide +kernel
theorem dX7_readsRow_100 : decode cX7_readsRow 100 = .ok (.bipush 98, 2) := by decide +kernel
theorem dX7_readsRow_102 : decode cX7_readsRow 102 = .ok (.if_icmp .eq 9, 3) := by decide +kernel
theorem dX7_readsRow_105 : decode cX7_readsRow 105 = .ok (.iload_n 3, 1) := by decide +kernel
theorem dX7_readsRow_106 : decode cX7_readsRow 106 = .ok (.bipush 115, 2) := by decide +kernel
theorem dX7_readsRow_108 : decode cX7_readsRow 108 = .ok (.if_icmp .ne 7, 3) := by decide +kernel
theorem dX7_readsRow_111 : decode cX7_readsRow 111 = .ok (.iconst 1, 1) := by decide +kernel
theorem dX7_readsRow_112 : decode cX7_readsRow 112 = .ok (.goto 4, 3) := by decide +kernel
theorem dX7_readsRow_115 : decode cX7_readsRow 115 = .ok (.iconst 0, 1) := by decide +kernel
theorem dX7_readsRow_116 : decode cX7_readsRow 116 = .ok (.istore_n 1, 1) := by decide +kernel
theorem dX7_readsRow_117 : decode cX7_readsRow 117 = .ok (.aload_n 0, 1) := by decide +kernel
theorem dX7_readsRow_118 : decode cX7_readsRow 118 = .ok (.getfield 16, 3) := by decide +kernel
theorem dX7_readsRow_121 : decode cX7_readsRow 121 = .ok (.aload_n 0, 1) := by decide +kernel
theorem dX7_readsRow_122 : decode cX7_readsRow 122 = .ok (.getfield 105, 3) := by decide +kernel
theorem dX7_readsRow_125 : decode cX7_readsRow 125 = .ok (.aload_n 0, 1) := by decide +kernel
theorem dX7_readsRow_126 : decode cX7_readsRow 126 = .ok (.getfield 99, 3) := by decide +kernel
theorem dX7_readsRow_129 : decode cX7_readsRow 129 = .ok (.imul, 1) := by decide +kernel
theorem dX7_readsRow_130 : decode cX7_readsRow 130 = .ok (.iload_n 2, 1) := by decide +kernel
theorem dX7_readsRow_131 : decode cX7_readsRow 131 = .ok (.iadd, 1) := by decide +kernel
theorem dX7_readsRow_132 : decode cX7_readsRow 132 = .ok (.iload_n 3, 1) := by decide +kernel
theorem dX7_readsRow_133 : decode cX7_readsRow 133 = .ok (.bipush 104, 2) := by decide +kernel
theorem dX7_readsRow_135 : decode cX7_readsRow 135 = .ok (.if_icmp .ne 7, 3) := by decide +kernel
theorem dX7_readsRow_138 : decode cX7_readsRow 138 = .ok (.iconst 0, 1) := by decide +kernel
theorem dX7_readsRow_139 : decode cX7_readsRow 139 = .ok (.goto 14, 3) := by decide +kernel
theorem dX7_readsRow_142 : decode cX7_readsRow 142 = .ok (.iload_n 3, 1) := by decide +kernel
theorem dX7_readsRow_143 : decode cX7_readsRow 143 = .ok (.bipush 98, 2) := by decide +kernel
theorem dX7_readsRow_145 : decode cX7_readsRow 145 = .ok (.if_icmp .ne 7, 3) := by decide +kernel
theorem dX7_readsRow_148 : decode cX7_readsRow 148 = .ok (.iconst 1, 1) := by decide +kernel
theorem dX7_readsRow_149 : decode cX7_readsRow 149 = .ok (.goto 4, 3) := by decide +kernel
theorem dX7_readsRow_152 : decode cX7_readsRow 152 = .ok (.iconst 2, 1) := by decide +kernel
theorem dX7_readsRow_153 : decode cX7_readsRow 153 = .ok (.iastore, 1) := by decide +kernel
theorem dX7_readsRow_154 : decode cX7_readsRow 154 = .ok (.iinc 2 1, 3) := by decide +kernel
theorem dX7_readsRow_157 : decode cX7_readsRow 157 = .ok (.goto (-87), 3) := by decide +kernel
theorem dX7_readsRow_160 : decode cX7_readsRow 160 = .ok (.aload_n 0, 1) := by decide +kernel
theorem dX7_readsRow_161 : decode cX7_readsRow 161 = .ok (.dup, 1) := by decide +kernel
theorem dX7_readsRow_162 : decode cX7_readsRow 162 = .ok (.getfield 99, 3) := by decide +kernel
theorem dX7_readsRow_165 : decode cX7_readsRow 165 = .ok (.iload_n 1, 1) := by decide +kernel
theorem dX7_readsRow_166 : decode cX7_readsRow 166 = .ok (.ifCond .eq 7, 3) := by decide +kernel
theorem dX7_readsRow_169 : decode cX7_readsRow 169 = .ok (.iconst 1, 1) := by decide +kernel
theorem dX7_readsRow_170 : decode cX7_readsRow 170 = .ok (.goto 4, 3) := by decide +kernel
theorem dX7_readsRow_173 : decode cX7_readsRow 173 = .ok (.iconst 0, 1) := by decide +kernel
theorem dX7_readsRow_174 : decode cX7_readsRow 174 = .ok (.iadd, 1) := by decide +kernel
theorem dX7_readsRow_175 : decode cX7_readsRow 175 = .ok (.putfield 99, 3) := by decide +kernel
theorem dX7_readsRow_178 : decode cX7_readsRow 178 = .ok (.iload_n 1, 1) := by decide +kernel
theorem dX7_readsRow_179 : decode cX7_readsRow 179 = .ok (.ireturn, 1) := by decide +kernel
theorem dX7_readsWalker_0 : decode cX7_readsWalker 0 = .ok (.aload_n 0, 1) := by decide +kernel
theorem dX7_readsWalker_1 : decode cX7_readsWalker 1 = .ok (.getfield 102, 3) := by decide +kernel
theorem dX7_readsWalker_4 : decode cX7_readsWalker 4 = .ok (.iconst 4, 1) := by decide +kernel
theorem dX7_readsWalker_5 : decode cX7_readsWalker 5 = .ok (.if_icmp .ne 5, 3) := by decide +kernel
theorem dX7_readsWalker_8 : decode cX7_readsWalker 8 = .ok (.iconst 0, 1) := by decide +kernel
theorem dX7_readsWalker_9 : decode cX7_readsWalker 9 = .ok (.ireturn, 1) := by decide +kernel
theorem dX7_readsWalker_10 : decode cX7_readsWalker 10 = .ok (.aload_n 0, 1) := by decide +kernel
theorem dX7_readsWalker_11 : decode cX7_readsWalker 11 = .ok (.getfield 105, 3) := by decide +kernel
theorem dX7_readsWalker_14 : decode cX7_readsWalker 14 = .ok (.aload_n 0, 1) := by decide +kernel
theorem dX7_readsWalker_15 : decode cX7_readsWalker 15 = .ok (.getfield 99, 3) := by decide +kernel
theorem dX7_readsWalker_18 : decode cX7_readsWalker 18 = .ok (.imul, 1) := by decide +kernel
theorem dX7_readsWalker_19 : decode cX7_readsWalker 19 = .ok (.iconst 1, 1) := by decide +kernel
theorem dX7_readsWalker_20 : decode cX7_readsWalker 20 = .ok (.isub, 1) := by decide +kernel
theorem dX7_readsWalker_21 : decode cX7_readsWalker 21 = .ok (.istore_n 1, 1) := by decide +kernel
theorem dX7_readsWalker_22 : decode cX7_readsWalker 22 = .ok (.aload_n 0, 1) := by decide +kernel
theorem dX7_readsWalker_23 : decode cX7_readsWalker 23 = .ok (.iload_n 1, 1) := by decide +kernel
theorem dX7_readsWalker_24 : decode cX7_readsWalker 24 = .ok (.invokevirtual 108, 3) := by decide +kernel
theorem dX7_readsWalker_27 : decode cX7_readsWalker 27 = .ok (.istore_n 2, 1) := by decide +kernel
theorem dX7_readsWalker_28 : decode cX7_readsWalker 28 = .ok (.iload_n 2, 1) := by decide +kernel
theorem dX7_readsWalker_29 : decode cX7_readsWalker 29 = .ok (.bipush (-9), 2) := by decide +kernel
theorem dX7_readsWalker_31 : decode cX7_readsWalker 31 = .ok (.if_icmp .ne 5, 3) := by decide +kernel
theorem dX7_readsWalker_34 : decode cX7_readsWalker 34 = .ok (.iconst 0, 1) := by decide +kernel
theorem dX7_readsWalker_35 : decode cX7_readsWalker 35 = .ok (.ireturn, 1) := by decide +kernel
theorem dX7_readsWalker_36 : decode cX7_readsWalker 36 = .ok (.aload_n 0, 1) := by decide +kernel
theorem dX7_readsWalker_37 : decode cX7_readsWalker 37 = .ok (.iload_n 1, 1) := by decide +kernel
theorem dX7_readsWalker_38 : decode cX7_readsWalker 38 = .ok (.invokevirtual 108, 3) := by decide +kernel
theorem dX7_readsWalker_41 : decode cX7_readsWalker 41 = .ok (.istore_n 3, 1) := by decide +kernel
theorem dX7_readsWalker_42 : decode cX7_readsWalker 42 = .ok (.iload_n 3, 1) := by decide +kernel
theorem dX7_readsWalker_43 : decode cX7_readsWalker 43 = .ok (.bipush (-9), 2) := by decide +kernel
theorem dX7_readsWalker_45 : decode cX7_readsWalker 45 = .ok (.if_icmp .eq 8, 3) := by decide +kernel
theorem dX7_readsWalker_48 : decode cX7_readsWalker 48 = .ok (.iload_n 2, 1) := by decide +kernel
theorem dX7_readsWalker_49 : decode cX7_readsWalker 49 = .ok (.iload_n 3, 1) := by decide +kernel
theorem dX7_readsWalker_50 : decode cX7_readsWalker 50 = .ok (.if_icmp .ne 5, 3) := by decide +kernel
theorem dX7_readsWalker_53 : decode cX7_readsWalker 53 = .ok (.iconst 0, 1) := by decide +kernel
theorem dX7_readsWalker_54 : decode cX7_readsWalker 54 = .ok (.ireturn, 1) := by decide +kernel
theorem dX7_readsWalker_55 : decode cX7_readsWalker 55 = .ok (.aload_n 0, 1) := by decide +kernel
theorem dX7_readsWalker_56 : decode cX7_readsWalker 56 = .ok (.getfield 22, 3) := by decide +kernel
theorem dX7_readsWalker_59 : decode cX7_readsWalker 59 = .ok (.iconst 2, 1) := by decide +kernel
theorem dX7_readsWalker_60 : decode cX7_readsWalker 60 = .ok (.aload_n 0, 1) := by decide +kernel
theorem dX7_readsWalker_61 : decode cX7_readsWalker 61 = .ok (.getfield 102, 3) := by decide +kernel
theorem dX7_readsWalker_64 : decode cX7_readsWalker 64 = .ok (.imul, 1) := by decide +kernel
theorem dX7_readsWalker_65 : decode cX7_readsWalker 65 = .ok (.iload_n 2, 1) := by decide +kernel
theorem dX7_readsWalker_66 : decode cX7_readsWalker 66 = .ok (.iastore, 1) := by decide +kernel
theorem dX7_readsWalker_67 : decode cX7_readsWalker 67 = .ok (.aload_n 0, 1) := by decide +kernel
theorem dX7_readsWalker_68 : decode cX7_readsWalker 68 = .ok (.getfield 22, 3) := by decide +kernel
theorem dX7_readsWalker_71 : decode cX7_readsWalker 71 = .ok (.iconst 2, 1) := by decide +kernel
theorem dX7_readsWalker_72 : decode cX7_readsWalker 72 = .ok (.aload_n 0, 1) := by decide +kernel
theorem dX7_readsWalker_73 : decode cX7_readsWalker 73 = .ok (.getfield 102, 3) := by decide +kernel
theorem dX7_readsWalker_76 : decode cX7_readsWalker 76 = .ok (.imul, 1) := by decide +kernel
theorem dX7_readsWalker_77 : decode cX7_readsWalker 77 = .ok (.iconst 1, 1) := by decide +kernel
theorem dX7_readsWalker_78 : decode cX7_readsWalker 78 = .ok (.iadd, 1) := by decide +kernel
theorem dX7_readsWalker_79 : decode cX7_readsWalker 79 = .ok (.iload_n 3, 1) := by decide +kernel
theorem dX7_readsWalker_80 : decode cX7_readsWalker 80 = .ok (.iastore, 1) := by decide +kernel
theorem dX7_readsWalker_81 : decode cX7_readsWalker 81 = .ok (.aload_n 0, 1) := by decide +kernel
theorem dX7_readsWalker_82 : decode cX7_readsWalker 82 = .ok (.dup, 1) := by decide +kernel
theorem dX7_readsWalker_83 : decode cX7_readsWalker 83 = .ok (.getfield 102, 3) := by decide +kernel
theorem dX7_readsWalker_86 : decode cX7_readsWalker 86 = .ok (.iconst 1, 1) := by decide +kernel
theorem dX7_readsWalker_87 : decode cX7_readsWalker 87 = .ok (.iadd, 1) := by decide +kernel
theorem dX7_readsWalker_88 : decode cX7_readsWalker 88 = .ok (.putfield 102, 3) := by decide +kernel
theorem dX7_readsWalker_91 : decode cX7_readsWalker 91 = .ok (.iconst 1, 1) := by decide +kernel
theorem dX7_readsWalker_92 : decode cX7_readsWalker 92 = .ok (.ireturn, 1) := by decide +kernel
theorem dX7_readsSink_0 : decode cX7_readsSink 0 = .ok (.aload_n 0, 1) := by decide +kernel
theorem dX7_readsSink_1 : decode cX7_readsSink 1 = .ok (.getfield 111, 3) := by decide +kernel
theorem dX7_readsSink_4 : decode cX7_readsSink 4 = .ok (.bipush (-9), 2) := by decide +kernel
theorem dX7_readsSink_6 : decode cX7_readsSink 6 = .ok (.if_icmp .eq 5, 3) := by decide +kernel
theorem dX7_readsSink_9 : decode cX7_readsSink 9 = .ok (.iconst 0, 1) := by decide +kernel
theorem dX7_readsSink_10 : decode cX7_readsSink 10 = .ok (.ireturn, 1) := by decide +kernel
theorem dX7_readsSink_11 : decode cX7_readsSink 11 = .ok (.aload_n 0, 1) := by decide +kernel
theorem dX7_readsSink_12 : decode cX7_readsSink 12 = .ok (.bipush 9, 2) := by decide +kernel
theorem dX7_readsSink_14 : decode cX7_readsSink 14 = .ok (.invokevirtual 108, 3) := by decide +kernel
theorem dX7_readsSink_17 : decode cX7_readsSink 17 = .ok (.istore_n 1, 1) := by decide +kernel
theorem dX7_readsSink_18 : decode cX7_readsSink 18 = .ok (.aload_n 0, 1) := by decide +kernel
theorem dX7_readsSink_19 : decode cX7_readsSink 19 = .ok (.iload_n 1, 1) := by decide +kernel
theorem dX7_readsSink_20 : decode cX7_readsSink 20 = .ok (.putfield 111, 3) := by decide +kernel
theorem dX7_readsSink_23 : decode cX7_readsSink 23 = .ok (.iload_n 1, 1) := by decide +kernel
theorem dX7_readsSink_24 : decode cX7_readsSink 24 = .ok (.bipush (-9), 2) := by decide +kernel
theorem dX7_readsSink_26 : decode cX7_readsSink 26 = .ok (.if_icmp .eq 7, 3) := by decide +kernel
theorem dX7_readsSink_29 : decode cX7_readsSink 29 = .ok (.iconst 1, 1) := by decide +kernel
theorem dX7_readsSink_30 : decode cX7_readsSink 30 = .ok (.goto 4, 3) := by decide +kernel
theorem dX7_readsSink_33 : decode cX7_readsSink 33 = .ok (.iconst 0, 1) := by decide +kernel
theorem dX7_readsSink_34 : decode cX7_readsSink 34 = .ok (.ireturn, 1) := by decide +kernel
theorem dX7_reads_0 : decode cX7_reads 0 = .ok (.aload_n 0, 1) := by decide +kernel
theorem dX7_reads_1 : decode cX7_reads 1 = .ok (.iconst 0, 1) := by decide +kernel
theorem dX7_reads_2 : decode cX7_reads 2 = .ok (.putfield 69, 3) := by decide +kernel
theorem dX7_reads_5 : decode cX7_reads 5 = .ok (.aload_n 0, 1) := by decide +kernel
theorem dX7_reads_6 : decode cX7_reads 6 = .ok (.iconst 0, 1) := by decide +kernel
theorem dX7_reads_7 : decode cX7_reads 7 = .ok (.putfield 105, 3) := by decide +kernel
theorem dX7_reads_10 : decode cX7_reads 10 = .ok (.aload_n 0, 1) := by decide +kernel
theorem dX7_reads_11 : decode cX7_reads 11 = .ok (.iconst 0, 1) := by decide +kernel
theorem dX7_reads_12 : decode cX7_reads 12 = .ok (.putfield 99, 3) := by decide +kernel
theorem dX7_reads_15 : decode cX7_reads 15 = .ok (.aload_n 0, 1) := by decide +kernel
theorem dX7_reads_16 : decode cX7_reads 16 = .ok (.iconst 0, 1) := by decide +kernel
theorem dX7_reads_17 : decode cX7_reads 17 = .ok (.putfield 102, 3) := by decide +kernel
theorem dX7_reads_20 : decode cX7_reads 20 = .ok (.aload_n 0, 1) := by decide +kernel
theorem dX7_reads_21 : decode cX7_reads 21 = .ok (.bipush (-9), 2) := by decide +kernel
theorem dX7_reads_23 : decode cX7_reads 23 = .ok (.putfield 111, 3) := by decide +kernel
theorem dX7_reads_26 : decode cX7_reads 26 = .ok (.iconst 0, 1) := by decide +kernel
theorem dX7_reads_27 : decode cX7_reads 27 = .ok (.istore_n 1, 1) := by decide +kernel
theorem dX7_reads_28 : decode cX7_reads 28 = .ok (.aload_n 0, 1) := by decide +kernel
theorem dX7_reads_29 : decode cX7_reads 29 = .ok (.invokevirtual 96, 3) := by decide +kernel
theorem dX7_reads_32 : decode cX7_reads 32 = .ok (.aload_n 0, 1) := by decide +kernel
theorem dX7_reads_33 : decode cX7_reads 33 = .ok (.getfield 82, 3) := by decide +kernel
theorem dX7_reads_36 : decode cX7_reads 36 = .ok (.ifCond .eq 81, 3) := by decide +kernel
theorem dX7_reads_39 : decode cX7_reads 39 = .ok (.aload_n 0, 1) := by decide +kernel
theorem dX7_reads_40 : decode cX7_reads 40 = .ok (.invokevirtual 114, 3) := by decide +kernel
theorem dX7_reads_43 : decode cX7_reads 43 = .ok (.istore_n 2, 1) := by decide +kernel
theorem dX7_reads_44 : decode cX7_reads 44 = .ok (.iload_n 2, 1) := by decide +kernel
theorem dX7_reads_45 : decode cX7_reads 45 = .ok (.ifCond .ne 10, 3) := by decide +kernel
theorem dX7_reads_48 : decode cX7_reads 48 = .ok (.aload_n 0, 1) := by decide +kernel
theorem dX7_reads_49 : decode cX7_reads 49 = .ok (.invokevirtual 118, 3) := by decide +kernel
theorem dX7_reads_52 : decode cX7_reads 52 = .ok (.goto 32, 3) := by decide +kernel
theorem dX7_reads_55 : decode cX7_reads 55 = .ok (.iload_n 2, 1) := by decide +kernel
theorem dX7_reads_56 : decode cX7_reads 56 = .ok (.iconst 1, 1) := by decide +kernel
theorem dX7_reads_57 : decode cX7_reads 57 = .ok (.if_icmp .ne 10, 3) := by decide +kernel
theorem dX7_reads_60 : decode cX7_reads 60 = .ok (.aload_n 0, 1) := by decide +kernel
theorem dX7_reads_61 : decode cX7_reads 61 = .ok (.invokevirtual 122, 3) := by decide +kernel
theorem dX7_reads_64 : decode cX7_reads 64 = .ok (.goto 20, 3) := by decide +kernel
theorem dX7_reads_67 : decode cX7_reads 67 = .ok (.iload_n 2, 1) := by decide +kernel
theorem dX7_reads_68 : decode cX7_reads 68 = .ok (.iconst 2, 1) := by decide +kernel
theorem dX7_reads_69 : decode cX7_reads 69 = .ok (.if_icmp .ne 14, 3) := by decide +kernel
theorem dX7_reads_72 : decode cX7_reads 72 = .ok (.aload_n 0, 1) := by decide +kernel
theorem dX7_reads_73 : decode cX7_reads 73 = .ok (.invokevirtual 125, 3) := by decide +kernel
theorem dX7_reads_76 : decode cX7_reads 76 = .ok (.ifCond .eq 7, 3) := by decide +kernel
theorem dX7_reads_79 : decode cX7_reads 79 = .ok (.iconst 1, 1) := by decide +kernel
theorem dX7_reads_80 : decode cX7_reads 80 = .ok (.goto 4, 3) := by decide +kernel
theorem dX7_reads_83 : decode cX7_reads 83 = .ok (.iconst 0, 1) := by decide +kernel
theorem dX7_reads_84 : decode cX7_reads 84 = .ok (.istore_n 3, 1) := by decide +kernel
theorem dX7_reads_85 : decode cX7_reads 85 = .ok (.iload_n 3, 1) := by decide +kernel
theorem dX7_reads_86 : decode cX7_reads 86 = .ok (.ifCond .ne 6, 3) := by decide +kernel
theorem dX7_reads_89 : decode cX7_reads 89 = .ok (.bipush (-9), 2) := by decide +kernel
theorem dX7_reads_91 : decode cX7_reads 91 = .ok (.ireturn, 1) := by decide +kernel
theorem dX7_reads_92 : decode cX7_reads 92 = .ok (.aload_n 0, 1) := by decide +kernel
theorem dX7_reads_93 : decode cX7_reads 93 = .ok (.invokevirtual 96, 3) := by decide +kernel
theorem dX7_reads_96 : decode cX7_reads 96 = .ok (.aload_n 0, 1) := by decide +kernel
theorem dX7_reads_97 : decode cX7_reads 97 = .ok (.getfield 82, 3) := by decide +kernel
theorem dX7_reads_100 : decode cX7_reads 100 = .ok (.iconst 3, 1) := by decide +kernel
theorem dX7_reads_101 : decode cX7_reads 101 = .ok (.if_icmp .eq 6, 3) := by decide +kernel
theorem dX7_reads_104 : decode cX7_reads 104 = .ok (.bipush (-9), 2) := by decide +kernel
theorem dX7_reads_106 : decode cX7_reads 106 = .ok (.ireturn, 1) := by decide +kernel
theorem dX7_reads_107 : decode cX7_reads 107 = .ok (.iinc 1 1, 3) := by decide +kernel
theorem dX7_reads_110 : decode cX7_reads 110 = .ok (.aload_n 0, 1) := by decide +kernel
theorem dX7_reads_111 : decode cX7_reads 111 = .ok (.invokevirtual 96, 3) := by decide +kernel
theorem dX7_reads_114 : decode cX7_reads 114 = .ok (.goto (-82), 3) := by decide +kernel
theorem dX7_reads_117 : decode cX7_reads 117 = .ok (.iload_n 1, 1) := by decide +kernel
theorem dX7_reads_118 : decode cX7_reads 118 = .ok (.ireturn, 1) := by decide +kernel
theorem dX7_begins_0 : decode cX7_begins 0 = .ok (.iconst 0, 1) := by decide +kernel
theorem dX7_begins_1 : decode cX7_begins 1 = .ok (.istore_n 1, 1) := by decide +kernel
theorem dX7_begins_2 : decode cX7_begins 2 = .ok (.iload_n 1, 1) := by decide +kernel
theorem dX7_begins_3 : decode cX7_begins 3 = .ok (.bipush 76, 2) := by decide +kernel
theorem dX7_begins_5 : decode cX7_begins 5 = .ok (.if_icmp .ge 16, 3) := by decide +kernel
theorem dX7_begins_8 : decode cX7_begins 8 = .ok (.aload_n 0, 1) := by decide +kernel
theorem dX7_begins_9 : decode cX7_begins 9 = .ok (.getfield 25, 3) := by decide +kernel
theorem dX7_begins_12 : decode cX7_begins 12 = .ok (.iload_n 1, 1) := by decide +kernel
theorem dX7_begins_13 : decode cX7_begins 13 = .ok (.iconst 0, 1) := by decide +kernel
theorem dX7_begins_14 : decode cX7_begins 14 = .ok (.iastore, 1) := by decide +kernel
theorem dX7_begins_15 : decode cX7_begins 15 = .ok (.iinc 1 1, 3) := by decide +kernel
theorem dX7_begins_18 : decode cX7_begins 18 = .ok (.goto (-16), 3) := by decide +kernel
theorem dX7_begins_21 : decode cX7_begins 21 = .ok (.iconst 0, 1) := by decide +kernel
theorem dX7_begins_22 : decode cX7_begins 22 = .ok (.istore_n 1, 1) := by decide +kernel
theorem dX7_begins_23 : decode cX7_begins 23 = .ok (.iload_n 1, 1) := by decide +kernel
theorem dX7_begins_24 : decode cX7_begins 24 = .ok (.aload_n 0, 1) := by decide +kernel
theorem dX7_begins_25 : decode cX7_begins 25 = .ok (.getfield 51, 3) := by decide +kernel
theorem dX7_begins_28 : decode cX7_begins 28 = .ok (.aload_n 0, 1) := by decide +kernel
theorem dX7_begins_29 : decode cX7_begins 29 = .ok (.getfield 54, 3) := by decide +kernel
theorem dX7_begins_32 : decode cX7_begins 32 = .ok (.imul, 1) := by decide +kernel
theorem dX7_begins_33 : decode cX7_begins 33 = .ok (.if_icmp .ge 59, 3) := by decide +kernel
theorem dX7_begins_36 : decode cX7_begins 36 = .ok (.aload_n 0, 1) := by decide +kernel
theorem dX7_begins_37 : decode cX7_begins 37 = .ok (.getfield 25, 3) := by decide +kernel
theorem dX7_begins_40 : decode cX7_begins 40 = .ok (.iload_n 1, 1) := by decide +kernel
theorem dX7_begins_41 : decode cX7_begins 41 = .ok (.aload_n 0, 1) := by decide +kernel
theorem dX7_begins_42 : decode cX7_begins 42 = .ok (.getfield 13, 3) := by decide +kernel
theorem dX7_begins_45 : decode cX7_begins 45 = .ok (.iload_n 1, 1) := by decide +kernel
theorem dX7_begins_46 : decode cX7_begins 46 = .ok (.iaload, 1) := by decide +kernel
theorem dX7_begins_47 : decode cX7_begins 47 = .ok (.iastore, 1) := by decide +kernel
theorem dX7_begins_48 : decode cX7_begins 48 = .ok (.aload_n 0, 1) := by decide +kernel
theorem dX7_begins_49 : decode cX7_begins 49 = .ok (.getfield 25, 3) := by decide +kernel
theorem dX7_begins_52 : decode cX7_begins 52 = .ok (.bipush 24, 2) := by decide +kernel
theorem dX7_begins_54 : decode cX7_begins 54 = .ok (.iload_n 1, 1) := by decide +kernel
theorem dX7_begins_55 : decode cX7_begins 55 = .ok (.iadd, 1) := by decide +kernel
theorem dX7_begins_56 : decode cX7_begins 56 = .ok (.aload_n 0, 1) := by decide +kernel
theorem dX7_begins_57 : decode cX7_begins 57 = .ok (.getfield 13, 3) := by decide +kernel
theorem dX7_begins_60 : decode cX7_begins 60 = .ok (.iload_n 1, 1) := by decide +kernel
theorem dX7_begins_61 : decode cX7_begins 61 = .ok (.iaload, 1) := by decide +kernel
theorem dX7_begins_62 : decode cX7_begins 62 = .ok (.iconst 2, 1) := by decide +kernel
theorem dX7_begins_63 : decode cX7_begins 63 = .ok (.if_icmp .ne 10, 3) := by decide +kernel
theorem dX7_begins_66 : decode cX7_begins 66 = .ok (.aload_n 0, 1) := by decide +kernel
theorem dX7_begins_67 : decode cX7_begins 67 = .ok (.getfield 128, 3) := by decide +kernel
theorem dX7_begins_70 : decode cX7_begins 70 = .ok (.goto 4, 3) := by decide +kernel
theorem dX7_begins_73 : decode cX7_begins 73 = .ok (.iconst 0, 1) := by decide +kernel
theorem dX7_begins_74 : decode cX7_begins 74 = .ok (.iastore, 1) := by decide +kernel
theorem dX7_begins_75 : decode cX7_begins 75 = .ok (.aload_n 0, 1) := by decide +kernel
theorem dX7_begins_76 : decode cX7_begins 76 = .ok (.getfield 25, 3) := by decide +kernel
theorem dX7_begins_79 : decode cX7_begins 79 = .ok (.bipush 48, 2) := by decide +kernel
theorem dX7_begins_81 : decode cX7_begins 81 = .ok (.iload_n 1, 1) := by decide +kernel
theorem dX7_begins_82 : decode cX7_begins 82 = .ok (.iadd, 1) := by decide +kernel
theorem dX7_begins_83 : decode cX7_begins 83 = .ok (.bipush (-9), 2) := by decide +kernel
theorem dX7_begins_85 : decode cX7_begins 85 = .ok (.iastore, 1) := by decide +kernel
theorem dX7_begins_86 : decode cX7_begins 86 = .ok (.iinc 1 1, 3) := by decide +kernel
theorem dX7_begins_89 : decode cX7_begins 89 = .ok (.goto (-66), 3) := by decide +kernel
theorem dX7_begins_92 : decode cX7_begins 92 = .ok (.return_, 1) := by decide +kernel
theorem dX7_moor_0 : decode cX7_moor 0 = .ok (.aload_n 0, 1) := by decide +kernel
theorem dX7_moor_1 : decode cX7_moor 1 = .ok (.iconst 0, 1) := by decide +kernel
theorem dX7_moor_2 : decode cX7_moor 2 = .ok (.putfield 47, 3) := by decide +kernel
theorem dX7_moor_5 : decode cX7_moor 5 = .ok (.aload_n 0, 1) := by decide +kernel
theorem dX7_moor_6 : decode cX7_moor 6 = .ok (.invokevirtual 131, 3) := by decide +kernel
theorem dX7_moor_9 : decode cX7_moor 9 = .ok (.istore_n 1, 1) := by decide +kernel
theorem dX7_moor_10 : decode cX7_moor 10 = .ok (.iload_n 1, 1) := by decide +kernel
theorem dX7_moor_11 : decode cX7_moor 11 = .ok (.bipush (-9), 2) := by decide +kernel
theorem dX7_moor_13 : decode cX7_moor 13 = .ok (.if_icmp .ne 11, 3) := by decide +kernel
theorem dX7_moor_16 : decode cX7_moor 16 = .ok (.bipush (-10), 2) := by decide +kernel
theorem dX7_moor_18 : decode cX7_moor 18 = .ok (.aload_n 0, 1) := by decide +kernel
theorem dX7_moor_19 : decode cX7_moor 19 = .ok (.getfield 76, 3) := by decide +kernel
theorem dX7_moor_22 : decode cX7_moor 22 = .ok (.isub, 1) := by decide +kernel
theorem dX7_moor_23 : decode cX7_moor 23 = .ok (.ireturn, 1) := by decide +kernel
theorem dX7_moor_24 : decode cX7_moor 24 = .ok (.aload_n 0, 1) := by decide +kernel
theorem dX7_moor_25 : decode cX7_moor 25 = .ok (.aload_n 0, 1) := by decide +kernel
theorem dX7_moor_26 : decode cX7_moor 26 = .ok (.getfield 105, 3) := by decide +kernel
theorem dX7_moor_29 : decode cX7_moor 29 = .ok (.putfield 51, 3) := by decide +kernel
theorem dX7_moor_32 : decode cX7_moor 32 = .ok (.aload_n 0, 1) := by decide +kernel
theorem dX7_moor_33 : decode cX7_moor 33 = .ok (.aload_n 0, 1) := by decide +kernel
theorem dX7_moor_34 : decode cX7_moor 34 = .ok (.getfield 99, 3) := by decide +kernel
theorem dX7_moor_37 : decode cX7_moor 37 = .ok (.putfield 54, 3) := by decide +kernel
theorem dX7_moor_40 : decode cX7_moor 40 = .ok (.aload_n 0, 1) := by decide +kernel
theorem dX7_moor_41 : decode cX7_moor 41 = .ok (.aload_n 0, 1) := by decide +kernel
theorem dX7_moor_42 : decode cX7_moor 42 = .ok (.getfield 102, 3) := by decide +kernel
theorem dX7_moor_45 : decode cX7_moor 45 = .ok (.putfield 61, 3) := by decide +kernel
theorem dX7_moor_48 : decode cX7_moor 48 = .ok (.aload_n 0, 1) := by decide +kernel
theorem dX7_moor_49 : decode cX7_moor 49 = .ok (.aload_n 0, 1) := by decide +kernel
theorem dX7_moor_50 : decode cX7_moor 50 = .ok (.getfield 111, 3) := by decide +kernel
theorem dX7_moor_53 : decode cX7_moor 53 = .ok (.bipush (-9), 2) := by decide +kernel
theorem dX7_moor_55 : decode cX7_moor 55 = .ok (.if_icmp .ne 7, 3) := by decide +kernel
theorem dX7_moor_58 : decode cX7_moor 58 = .ok (.iconst 0, 1) := by decide +kernel
theorem dX7_moor_59 : decode cX7_moor 59 = .ok (.goto 7, 3) := by decide +kernel
theorem dX7_moor_62 : decode cX7_moor 62 = .ok (.aload_n 0, 1) := by decide +kernel
theorem dX7_moor_63 : decode cX7_moor 63 = .ok (.getfield 111, 3) := by decide +kernel
theorem dX7_moor_66 : decode cX7_moor 66 = .ok (.putfield 128, 3) := by decide +kernel
theorem dX7_moor_69 : decode cX7_moor 69 = .ok (.iconst 0, 1) := by decide +kernel
theorem dX7_moor_70 : decode cX7_moor 70 = .ok (.istore_n 2, 1) := by decide +kernel
theorem dX7_moor_71 : decode cX7_moor 71 = .ok (.iload_n 2, 1) := by decide +kernel
theorem dX7_moor_72 : decode cX7_moor 72 = .ok (.bipush 24, 2) := by decide +kernel
theorem dX7_moor_74 : decode cX7_moor 74 = .ok (.if_icmp .ge 21, 3) := by decide +kernel
theorem dX7_moor_77 : decode cX7_moor 77 = .ok (.aload_n 0, 1) := by decide +kernel
theorem dX7_moor_78 : decode cX7_moor 78 = .ok (.getfield 13, 3) := by decide +kernel
theorem dX7_moor_81 : decode cX7_moor 81 = .ok (.iload_n 2, 1) := by decide +kernel
theorem dX7_moor_82 : decode cX7_moor 82 = .ok (.aload_n 0, 1) := by decide +kernel
theorem dX7_moor_83 : decode cX7_moor 83 = .ok (.getfield 16, 3) := by decide +kernel
theorem dX7_moor_86 : decode cX7_moor 86 = .ok (.iload_n 2, 1) := by decide +kernel
theorem dX7_moor_87 : decode cX7_moor 87 = .ok (.iaload, 1) := by decide +kernel
theorem dX7_moor_88 : decode cX7_moor 88 = .ok (.iastore, 1) := by decide +kernel
theorem dX7_moor_89 : decode cX7_moor 89 = .ok (.iinc 2 1, 3) := by decide +kernel
theorem dX7_moor_92 : decode cX7_moor 92 = .ok (.goto (-21), 3) := by decide +kernel
theorem dX7_moor_95 : decode cX7_moor 95 = .ok (.iconst 0, 1) := by decide +kernel
theorem dX7_moor_96 : decode cX7_moor 96 = .ok (.istore_n 2, 1) := by decide +kernel
theorem dX7_moor_97 : decode cX7_moor 97 = .ok (.iload_n 2, 1) := by decide +kernel
theorem dX7_moor_98 : decode cX7_moor 98 = .ok (.bipush 8, 2) := by decide +kernel
theorem dX7_moor_100 : decode cX7_moor 100 = .ok (.if_icmp .ge 21, 3) := by decide +kernel
theorem dX7_moor_103 : decode cX7_moor 103 = .ok (.aload_n 0, 1) := by decide +kernel
theorem dX7_moor_104 : decode cX7_moor 104 = .ok (.getfield 19, 3) := by decide +kernel
theorem dX7_moor_107 : decode cX7_moor 107 = .ok (.iload_n 2, 1) := by decide +kernel
theorem dX7_moor_108 : decode cX7_moor 108 = .ok (.aload_n 0, 1) := by decide +kernel
theorem dX7_moor_109 : decode cX7_moor 109 = .ok (.getfield 22, 3) := by decide +kernel
theorem dX7_moor_112 : decode cX7_moor 112 = .ok (.iload_n 2, 1) := by decide +kernel
theorem dX7_moor_113 : decode cX7_moor 113 = .ok (.iaload, 1) := by decide +kernel
theorem dX7_moor_114 : decode cX7_moor 114 = .ok (.iastore, 1) := by decide +kernel
theorem dX7_moor_115 : decode cX7_moor 115 = .ok (.iinc 2 1, 3) := by decide +kernel
theorem dX7_moor_118 : decode cX7_moor 118 = .ok (.goto (-21), 3) := by decide +kernel
theorem dX7_moor_121 : decode cX7_moor 121 = .ok (.aload_n 0, 1) := by decide +kernel
theorem dX7_moor_122 : decode cX7_moor 122 = .ok (.iconst 0, 1) := by decide +kernel
theorem dX7_moor_123 : decode cX7_moor 123 = .ok (.putfield 64, 3) := by decide +kernel
theorem dX7_moor_126 : decode cX7_moor 126 = .ok (.aload_n 0, 1) := by decide +kernel
theorem dX7_moor_127 : decode cX7_moor 127 = .ok (.getfield 31, 3) := by decide +kernel
theorem dX7_moor_130 : decode cX7_moor 130 = .ok (.iconst 0, 1) := by decide +kernel
theorem dX7_moor_131 : decode cX7_moor 131 = .ok (.iconst 0, 1) := by decide +kernel
theorem dX7_moor_132 : decode cX7_moor 132 = .ok (.bastore, 1) := by decide +kernel
theorem dX7_moor_133 : decode cX7_moor 133 = .ok (.aload_n 0, 1) := by decide +kernel
theorem dX7_moor_134 : decode cX7_moor 134 = .ok (.getfield 31, 3) := by decide +kernel
theorem dX7_moor_137 : decode cX7_moor 137 = .ok (.iconst 1, 1) := by decide +kernel
theorem dX7_moor_138 : decode cX7_moor 138 = .ok (.iconst 0, 1) := by decide +kernel
theorem dX7_moor_139 : decode cX7_moor 139 = .ok (.bastore, 1) := by decide +kernel
theorem dX7_moor_140 : decode cX7_moor 140 = .ok (.aload_n 0, 1) := by decide +kernel
theorem dX7_moor_141 : decode cX7_moor 141 = .ok (.invokevirtual 134, 3) := by decide +kernel
theorem dX7_moor_144 : decode cX7_moor 144 = .ok (.iload_n 1, 1) := by decide +kernel
theorem dX7_moor_145 : decode cX7_moor 145 = .ok (.ireturn, 1) := by decide +kernel
theorem dX7_cell_0 : decode cX7_cell 0 = .ok (.aload_n 0, 1) := by decide +kernel
theorem dX7_cell_1 : decode cX7_cell 1 = .ok (.iconst 0, 1) := by decide +kernel
theorem dX7_cell_2 : decode cX7_cell 2 = .ok (.putfield 47, 3) := by decide +kernel
theorem dX7_cell_5 : decode cX7_cell 5 = .ok (.aload_n 0, 1) := by decide +kernel
theorem dX7_cell_6 : decode cX7_cell 6 = .ok (.iload_n 1, 1) := by decide +kernel
theorem dX7_cell_7 : decode cX7_cell 7 = .ok (.invokevirtual 137, 3) := by decide +kernel
theorem dX7_cell_10 : decode cX7_cell 10 = .ok (.ifCond .eq 26, 3) := by decide +kernel
theorem dX7_cell_13 : decode cX7_cell 13 = .ok (.iload_n 2, 1) := by decide +kernel
theorem dX7_cell_14 : decode cX7_cell 14 = .ok (.iconst 0, 1) := by decide +kernel
theorem dX7_cell_15 : decode cX7_cell 15 = .ok (.iconst 2, 1) := by decide +kernel
theorem dX7_cell_16 : decode cX7_cell 16 = .ok (.invokestatic 57, 3) := by decide +kernel
theorem dX7_cell_19 : decode cX7_cell 19 = .ok (.ifCond .eq 17, 3) := by decide +kernel
theorem dX7_cell_22 : decode cX7_cell 22 = .ok (.aload_n 0, 1) := by decide +kernel
theorem dX7_cell_23 : decode cX7_cell 23 = .ok (.getfield 25, 3) := by decide +kernel
theorem dX7_cell_26 : decode cX7_cell 26 = .ok (.bipush 24, 2) := by decide +kernel
theorem dX7_cell_28 : decode cX7_cell 28 = .ok (.iload_n 2, 1) := by decide +kernel
theorem dX7_cell_29 : decode cX7_cell 29 = .ok (.imul, 1) := by decide +kernel
theorem dX7_cell_30 : decode cX7_cell 30 = .ok (.iload_n 1, 1) := by decide +kernel
theorem dX7_cell_31 : decode cX7_cell 31 = .ok (.iadd, 1) := by decide +kernel
theorem dX7_cell_32 : decode cX7_cell 32 = .ok (.iaload, 1) := by decide +kernel
theorem dX7_cell_33 : decode cX7_cell 33 = .ok (.goto 4, 3) := by decide +kernel
theorem dX7_cell_36 : decode cX7_cell 36 = .ok (.iconst (-1), 1) := by decide +kernel
theorem dX7_cell_37 : decode cX7_cell 37 = .ok (.ireturn, 1) := by decide +kernel
theorem dX7_laidBy_0 : decode cX7_laidBy 0 = .ok (.iconst 0, 1) := by decide +kernel
theorem dX7_laidBy_1 : decode cX7_laidBy 1 = .ok (.istore_n 2, 1) := by decide +kernel
theorem dX7_laidBy_2 : decode cX7_laidBy 2 = .ok (.iconst 0, 1) := by decide +kernel
theorem dX7_laidBy_3 : decode cX7_laidBy 3 = .ok (.istore_n 3, 1) := by decide +kernel
theorem dX7_laidBy_4 : decode cX7_laidBy 4 = .ok (.iload_n 3, 1) := by decide +kernel
theorem dX7_laidBy_5 : decode cX7_laidBy 5 = .ok (.aload_n 0, 1) := by decide +kernel
theorem dX7_laidBy_6 : decode cX7_laidBy 6 = .ok (.getfield 51, 3) := by decide +kernel
theorem dX7_laidBy_9 : decode cX7_laidBy 9 = .ok (.aload_n 0, 1) := by decide +kernel
theorem dX7_laidBy_10 : decode cX7_laidBy 10 = .ok (.getfield 54, 3) := by decide +kernel
theorem dX7_laidBy_13 : decode cX7_laidBy 13 = .ok (.imul, 1) := by decide +kernel
theorem dX7_laidBy_14 : decode cX7_laidBy 14 = .ok (.if_icmp .ge 30, 3) := by decide +kernel
theorem dX7_laidBy_17 : decode cX7_laidBy 17 = .ok (.iload_n 2, 1) := by decide +kernel
theorem dX7_laidBy_18 : decode cX7_laidBy 18 = .ok (.aload_n 0, 1) := by decide +kernel
theorem dX7_laidBy_19 : decode cX7_laidBy 19 = .ok (.getfield 25, 3) := by decide +kernel
theorem dX7_laidBy_22 : decode cX7_laidBy 22 = .ok (.bipush 48, 2) := by decide +kernel
theorem dX7_laidBy_24 : decode cX7_laidBy 24 = .ok (.iload_n 3, 1) := by decide +kernel
theorem dX7_laidBy_25 : decode cX7_laidBy 25 = .ok (.iadd, 1) := by decide +kernel
theorem dX7_laidBy_26 : decode cX7_laidBy 26 = .ok (.iaload, 1) := by decide +kernel
theorem dX7_laidBy_27 : decode cX7_laidBy 27 = .ok (.iload_n 1, 1) := by decide +kernel
theorem dX7_laidBy_28 : decode cX7_laidBy 28 = .ok (.if_icmp .ne 7, 3) := by decide +kernel
theorem dX7_laidBy_31 : decode cX7_laidBy 31 = .ok (.iconst 1, 1) := by decide +kernel
theorem dX7_laidBy_32 : decode cX7_laidBy 32 = .ok (.goto 4, 3) := by decide +kernel
theorem dX7_laidBy_35 : decode cX7_laidBy 35 = .ok (.iconst 0, 1) := by decide +kernel
theorem dX7_laidBy_36 : decode cX7_laidBy 36 = .ok (.iadd, 1) := by decide +kernel
theorem dX7_laidBy_37 : decode cX7_laidBy 37 = .ok (.istore_n 2, 1) := by decide +kernel
theorem dX7_laidBy_38 : decode cX7_laidBy 38 = .ok (.iinc 3 1, 3) := by decide +kernel
theorem dX7_laidBy_41 : decode cX7_laidBy 41 = .ok (.goto (-37), 3) := by decide +kernel
theorem dX7_laidBy_44 : decode cX7_laidBy 44 = .ok (.iload_n 2, 1) := by decide +kernel
theorem dX7_laidBy_45 : decode cX7_laidBy 45 = .ok (.ireturn, 1) := by decide +kernel
theorem dX7_walker_0 : decode cX7_walker 0 = .ok (.aload_n 0, 1) := by decide +kernel
theorem dX7_walker_1 : decode cX7_walker 1 = .ok (.iconst 0, 1) := by decide +kernel
theorem dX7_walker_2 : decode cX7_walker 2 = .ok (.putfield 47, 3) := by decide +kernel
theorem dX7_walker_5 : decode cX7_walker 5 = .ok (.aload_n 0, 1) := by decide +kernel
theorem dX7_walker_6 : decode cX7_walker 6 = .ok (.iload_n 1, 1) := by decide +kernel
theorem dX7_walker_7 : decode cX7_walker 7 = .ok (.invokevirtual 141, 3) := by decide +kernel
theorem dX7_walker_10 : decode cX7_walker 10 = .ok (.ifCond .eq 12, 3) := by decide +kernel
theorem dX7_walker_13 : decode cX7_walker 13 = .ok (.iload_n 2, 1) := by decide +kernel
theorem dX7_walker_14 : decode cX7_walker 14 = .ok (.iconst 0, 1) := by decide +kernel
theorem dX7_walker_15 : decode cX7_walker 15 = .ok (.iconst 3, 1) := by decide +kernel
theorem dX7_walker_16 : decode cX7_walker 16 = .ok (.invokestatic 57, 3) := by decide +kernel
theorem dX7_walker_19 : decode cX7_walker 19 = .ok (.ifCond .ne 5, 3) := by decide +kernel
theorem dX7_walker_22 : decode cX7_walker 22 = .ok (.iconst (-1), 1) := by decide +kernel
theorem dX7_walker_23 : decode cX7_walker 23 = .ok (.ireturn, 1) := by decide +kernel
theorem dX7_walker_24 : decode cX7_walker 24 = .ok (.iload_n 2, 1) := by decide +kernel
theorem dX7_walker_25 : decode cX7_walker 25 = .ok (.iconst 2, 1) := by decide +kernel
theorem dX7_walker_26 : decode cX7_walker 26 = .ok (.if_icmp .ge 16, 3) := by decide +kernel
theorem dX7_walker_29 : decode cX7_walker 29 = .ok (.aload_n 0, 1) := by decide +kernel
theorem dX7_walker_30 : decode cX7_walker 30 = .ok (.getfield 19, 3) := by decide +kernel
theorem dX7_walker_33 : decode cX7_walker 33 = .ok (.iconst 2, 1) := by decide +kernel
theorem dX7_walker_34 : decode cX7_walker 34 = .ok (.iload_n 1, 1) := by decide +kernel
theorem dX7_walker_35 : decode cX7_walker 35 = .ok (.imul, 1) := by decide +kernel
theorem dX7_walker_36 : decode cX7_walker 36 = .ok (.iload_n 2, 1) := by decide +kernel
theorem dX7_walker_37 : decode cX7_walker 37 = .ok (.iadd, 1) := by decide +kernel
theorem dX7_walker_38 : decode cX7_walker 38 = .ok (.iaload, 1) := by decide +kernel
theorem dX7_walker_39 : decode cX7_walker 39 = .ok (.goto 25, 3) := by decide +kernel
theorem dX7_walker_42 : decode cX7_walker 42 = .ok (.iload_n 2, 1) := by decide +kernel
theorem dX7_walker_43 : decode cX7_walker 43 = .ok (.iconst 2, 1) := by decide +kernel
theorem dX7_walker_44 : decode cX7_walker 44 = .ok (.if_icmp .ne 15, 3) := by decide +kernel
theorem dX7_walker_47 : decode cX7_walker 47 = .ok (.aload_n 0, 1) := by decide +kernel
theorem dX7_walker_48 : decode cX7_walker 48 = .ok (.getfield 25, 3) := by decide +kernel
theorem dX7_walker_51 : decode cX7_walker 51 = .ok (.bipush 72, 2) := by decide +kernel
theorem dX7_walker_53 : decode cX7_walker 53 = .ok (.iload_n 1, 1) := by decide +kernel
theorem dX7_walker_54 : decode cX7_walker 54 = .ok (.iadd, 1) := by decide +kernel
theorem dX7_walker_55 : decode cX7_walker 55 = .ok (.iaload, 1) := by decide +kernel
theorem dX7_walker_56 : decode cX7_walker 56 = .ok (.goto 8, 3) := by decide +kernel
theorem dX7_walker_59 : decode cX7_walker 59 = .ok (.aload_n 0, 1) := by decide +kernel
theorem dX7_walker_60 : decode cX7_walker 60 = .ok (.iload_n 1, 1) := by decide +kernel
theorem dX7_walker_61 : decode cX7_walker 61 = .ok (.invokevirtual 144, 3) := by decide +kernel
theorem dX7_walker_64 : decode cX7_walker 64 = .ok (.ireturn, 1) := by decide +kernel
theorem dX7_apartBy_0 : decode cX7_apartBy 0 = .ok (.iload_n 0, 1) := by decide +kernel
theorem dX7_apartBy_1 : decode cX7_apartBy 1 = .ok (.iload_n 1, 1) := by decide +kernel
theorem dX7_apartBy_2 : decode cX7_apartBy 2 = .ok (.if_icmp .ge 9, 3) := by decide +kernel
theorem dX7_apartBy_5 : decode cX7_apartBy 5 = .ok (.iload_n 1, 1) := by decide +kernel
theorem dX7_apartBy_6 : decode cX7_apartBy 6 = .ok (.iload_n 0, 1) := by decide +kernel
theorem dX7_apartBy_7 : decode cX7_apartBy 7 = .ok (.isub, 1) := by decide +kernel
theorem dX7_apartBy_8 : decode cX7_apartBy 8 = .ok (.goto 6, 3) := by decide +kernel
theorem dX7_apartBy_11 : decode cX7_apartBy 11 = .ok (.iload_n 0, 1) := by decide +kernel
theorem dX7_apartBy_12 : decode cX7_apartBy 12 = .ok (.iload_n 1, 1) := by decide +kernel
theorem dX7_apartBy_13 : decode cX7_apartBy 13 = .ok (.isub, 1) := by decide +kernel
theorem dX7_apartBy_14 : decode cX7_apartBy 14 = .ok (.ireturn, 1) := by decide +kernel
theorem dX7_isStep_0 : decode cX7_isStep 0 = .ok (.iload_n 1, 1) := by decide +kernel
theorem dX7_isStep_1 : decode cX7_isStep 1 = .ok (.aload_n 0, 1) := by decide +kernel
theorem dX7_isStep_2 : decode cX7_isStep 2 = .ok (.getfield 51, 3) := by decide +kernel
theorem dX7_isStep_5 : decode cX7_isStep 5 = .ok (.irem, 1) := by decide +kernel
theorem dX7_isStep_6 : decode cX7_isStep 6 = .ok (.iload_n 2, 1) := by decide +kernel
theorem dX7_isStep_7 : decode cX7_isStep 7 = .ok (.aload_n 0, 1) := by decide +kernel
theorem dX7_isStep_8 : decode cX7_isStep 8 = .ok (.getfield 51, 3) := by decide +kernel
theorem dX7_isStep_11 : decode cX7_isStep 11 = .ok (.irem, 1) := by decide +kernel
theorem dX7_isStep_12 : decode cX7_isStep 12 = .ok (.invokestatic 147, 3) := by decide +kernel
theorem dX7_isStep_15 : decode cX7_isStep 15 = .ok (.istore_n 3, 1) := by decide +kernel
theorem dX7_isStep_16 : decode cX7_isStep 16 = .ok (.iload_n 1, 1) := by decide +kernel
theorem dX7_isStep_17 : decode cX7_isStep 17 = .ok (.aload_n 0, 1) := by decide +kernel
theorem dX7_isStep_18 : decode cX7_isStep 18 = .ok (.getfield 51, 3) := by decide +kernel
theorem dX7_isStep_21 : decode cX7_isStep 21 = .ok (.idiv, 1) := by decide +kernel
theorem dX7_isStep_22 : decode cX7_isStep 22 = .ok (.iload_n 2, 1) := by decide +kernel
theorem dX7_isStep_23 : decode cX7_isStep 23 = .ok (.aload_n 0, 1) := by decide +kernel
theorem dX7_isStep_24 : decode cX7_isStep 24 = .ok (.getfield 51, 3) := by decide +kernel
theorem dX7_isStep_27 : decode cX7_isStep 27 = .ok (.idiv, 1) := by decide +kernel
theorem dX7_isStep_28 : decode cX7_isStep 28 = .ok (.invokestatic 147, 3) := by decide +kernel
theorem dX7_isStep_31 : decode cX7_isStep 31 = .ok (.istore 4, 2) := by decide +kernel
theorem dX7_isStep_33 : decode cX7_isStep 33 = .ok (.iload_n 3, 1) := by decide +kernel
theorem dX7_isStep_34 : decode cX7_isStep 34 = .ok (.ifCond .ne 13, 3) := by decide +kernel
theorem dX7_isStep_37 : decode cX7_isStep 37 = .ok (.iload 4, 2) := by decide +kernel
theorem dX7_isStep_39 : decode cX7_isStep 39 = .ok (.iconst 1, 1) := by decide +kernel
theorem dX7_isStep_40 : decode cX7_isStep 40 = .ok (.iconst 2, 1) := by decide +kernel
theorem dX7_isStep_41 : decode cX7_isStep 41 = .ok (.invokestatic 57, 3) := by decide +kernel
theorem dX7_isStep_44 : decode cX7_isStep 44 = .ok (.ifCond .ne 17, 3) := by decide +kernel
theorem dX7_isStep_47 : decode cX7_isStep 47 = .ok (.iload 4, 2) := by decide +kernel
theorem dX7_isStep_49 : decode cX7_isStep 49 = .ok (.ifCond .ne 16, 3) := by decide +kernel
theorem dX7_isStep_52 : decode cX7_isStep 52 = .ok (.iload_n 3, 1) := by decide +kernel
theorem dX7_isStep_53 : decode cX7_isStep 53 = .ok (.iconst 1, 1) := by decide +kernel
theorem dX7_isStep_54 : decode cX7_isStep 54 = .ok (.iconst 2, 1) := by decide +kernel
theorem dX7_isStep_55 : decode cX7_isStep 55 = .ok (.invokestatic 57, 3) := by decide +kernel
theorem dX7_isStep_58 : decode cX7_isStep 58 = .ok (.ifCond .eq 7, 3) := by decide +kernel
theorem dX7_isStep_61 : decode cX7_isStep 61 = .ok (.iconst 1, 1) := by decide +kernel
theorem dX7_isStep_62 : decode cX7_isStep 62 = .ok (.goto 4, 3) := by decide +kernel
theorem dX7_isStep_65 : decode cX7_isStep 65 = .ok (.iconst 0, 1) := by decide +kernel
theorem dX7_isStep_66 : decode cX7_isStep 66 = .ok (.ireturn, 1) := by decide +kernel
theorem dX7_measures_0 : decode cX7_measures 0 = .ok (.aload_n 0, 1) := by decide +kernel
theorem dX7_measures_1 : decode cX7_measures 1 = .ok (.getfield 51, 3) := by decide +kernel
theorem dX7_measures_4 : decode cX7_measures 4 = .ok (.aload_n 0, 1) := by decide +kernel
theorem dX7_measures_5 : decode cX7_measures 5 = .ok (.getfield 54, 3) := by decide +kernel
theorem dX7_measures_8 : decode cX7_measures 8 = .ok (.imul, 1) := by decide +kernel
theorem dX7_measures_9 : decode cX7_measures 9 = .ok (.istore_n 2, 1) := by decide +kernel
theorem dX7_measures_10 : decode cX7_measures 10 = .ok (.iconst 0, 1) := by decide +kernel
theorem dX7_measures_11 : decode cX7_measures 11 = .ok (.istore_n 3, 1) := by decide +kernel
theorem dX7_measures_12 : decode cX7_measures 12 = .ok (.iload_n 3, 1) := by decide +kernel
theorem dX7_measures_13 : decode cX7_measures 13 = .ok (.iload_n 2, 1) := by decide +kernel
theorem dX7_measures_14 : decode cX7_measures 14 = .ok (.if_icmp .ge 36, 3) := by decide +kernel
theorem dX7_measures_17 : decode cX7_measures 17 = .ok (.aload_n 0, 1) := by decide +kernel
theorem dX7_measures_18 : decode cX7_measures 18 = .ok (.getfield 35, 3) := by decide +kernel
theorem dX7_measures_21 : decode cX7_measures 21 = .ok (.iload_n 3, 1) := by decide +kernel
theorem dX7_measures_22 : decode cX7_measures 22 = .ok (.iload_n 3, 1) := by decide +kernel
theorem dX7_measures_23 : decode cX7_measures 23 = .ok (.iload_n 1, 1) := by decide +kernel
theorem dX7_measures_24 : decode cX7_measures 24 = .ok (.if_icmp .ne 17, 3) := by decide +kernel
theorem dX7_measures_27 : decode cX7_measures 27 = .ok (.aload_n 0, 1) := by decide +kernel
theorem dX7_measures_28 : decode cX7_measures 28 = .ok (.getfield 25, 3) := by decide +kernel
theorem dX7_measures_31 : decode cX7_measures 31 = .ok (.iload_n 3, 1) := by decide +kernel
theorem dX7_measures_32 : decode cX7_measures 32 = .ok (.iaload, 1) := by decide +kernel
theorem dX7_measures_33 : decode cX7_measures 33 = .ok (.iconst 1, 1) := by decide +kernel
theorem dX7_measures_34 : decode cX7_measures 34 = .ok (.if_icmp .eq 7, 3) := by decide +kernel
theorem dX7_measures_37 : decode cX7_measures 37 = .ok (.iconst 0, 1) := by decide +kernel
theorem dX7_measures_38 : decode cX7_measures 38 = .ok (.goto 5, 3) := by decide +kernel
theorem dX7_measures_41 : decode cX7_measures 41 = .ok (.bipush 99, 2) := by decide +kernel
theorem dX7_measures_43 : decode cX7_measures 43 = .ok (.iastore, 1) := by decide +kernel
theorem dX7_measures_44 : decode cX7_measures 44 = .ok (.iinc 3 1, 3) := by decide +kernel
theorem dX7_measures_47 : decode cX7_measures 47 = .ok (.goto (-35), 3) := by decide +kernel
theorem dX7_measures_50 : decode cX7_measures 50 = .ok (.iconst 1, 1) := by decide +kernel
theorem dX7_measures_51 : decode cX7_measures 51 = .ok (.istore_n 3, 1) := by decide +kernel
theorem dX7_measures_52 : decode cX7_measures 52 = .ok (.iload_n 3, 1) := by decide +kernel
theorem dX7_measures_53 : decode cX7_measures 53 = .ok (.ifCond .eq 143, 3) := by decide +kernel
theorem dX7_measures_56 : decode cX7_measures 56 = .ok (.iconst 0, 1) := by decide +kernel
theorem dX7_measures_57 : decode cX7_measures 57 = .ok (.istore_n 3, 1) := by decide +kernel
theorem dX7_measures_58 : decode cX7_measures 58 = .ok (.iconst 0, 1) := by decide +kernel
theorem dX7_measures_59 : decode cX7_measures 59 = .ok (.istore 4, 2) := by decide +kernel
theorem dX7_measures_61 : decode cX7_measures 61 = .ok (.iload 4, 2) := by decide +kernel
theorem dX7_measures_63 : decode cX7_measures 63 = .ok (.iload_n 2, 1) := by decide +kernel
theorem dX7_measures_64 : decode cX7_measures 64 = .ok (.if_icmp .ge 129, 3) := by decide +kernel
theorem dX7_measures_67 : decode cX7_measures 67 = .ok (.iconst 0, 1) := by decide +kernel
theorem dX7_measures_68 : decode cX7_measures 68 = .ok (.istore 5, 2) := by decide +kernel
theorem dX7_measures_70 : decode cX7_measures 70 = .ok (.iload 5, 2) := by decide +kernel
theorem dX7_measures_72 : decode cX7_measures 72 = .ok (.iload_n 2, 1) := by decide +kernel
theorem dX7_measures_73 : decode cX7_measures 73 = .ok (.if_icmp .ge 114, 3) := by decide +kernel
theorem dX7_measures_76 : decode cX7_measures 76 = .ok (.aload_n 0, 1) := by decide +kernel
theorem dX7_measures_77 : decode cX7_measures 77 = .ok (.getfield 25, 3) := by decide +kernel
theorem dX7_measures_80 : decode cX7_measures 80 = .ok (.iload 4, 2) := by decide +kernel
theorem dX7_measures_82 : decode cX7_measures 82 = .ok (.iaload, 1) := by decide +kernel
theorem dX7_measures_83 : decode cX7_measures 83 = .ok (.iconst 1, 1) := by decide +kernel
theorem dX7_measures_84 : decode cX7_measures 84 = .ok (.if_icmp .eq 103, 3) := by decide +kernel
theorem dX7_measures_87 : decode cX7_measures 87 = .ok (.aload_n 0, 1) := by decide +kernel
theorem dX7_measures_88 : decode cX7_measures 88 = .ok (.getfield 25, 3) := by decide +kernel
theorem dX7_measures_91 : decode cX7_measures 91 = .ok (.iload 5, 2) := by decide +kernel
theorem dX7_measures_93 : decode cX7_measures 93 = .ok (.iaload, 1) := by decide +kernel
theorem dX7_measures_94 : decode cX7_measures 94 = .ok (.iconst 1, 1) := by decide +kernel
theorem dX7_measures_95 : decode cX7_measures 95 = .ok (.if_icmp .eq 37, 3) := by decide +kernel
theorem dX7_measures_98 : decode cX7_measures 98 = .ok (.aload_n 0, 1) := by decide +kernel
theorem dX7_measures_99 : decode cX7_measures 99 = .ok (.iload 4, 2) := by decide +kernel
theorem dX7_measures_101 : decode cX7_measures 101 = .ok (.iload 5, 2) := by decide +kernel
theorem dX7_measures_103 : decode cX7_measures 103 = .ok (.invokevirtual 151, 3) := by decide +kernel
theorem dX7_measures_106 : decode cX7_measures 106 = .ok (.ifCond .eq 26, 3) := by decide +kernel
theorem dX7_measures_109 : decode cX7_measures 109 = .ok (.aload_n 0, 1) := by decide +kernel
theorem dX7_measures_110 : decode cX7_measures 110 = .ok (.getfield 35, 3) := by decide +kernel
theorem dX7_measures_113 : decode cX7_measures 113 = .ok (.iload 5, 2) := by decide +kernel
theorem dX7_measures_115 : decode cX7_measures 115 = .ok (.iaload, 1) := by decide +kernel
theorem dX7_measures_116 : decode cX7_measures 116 = .ok (.iconst 1, 1) := by decide +kernel
theorem dX7_measures_117 : decode cX7_measures 117 = .ok (.iadd, 1) := by decide +kernel
theorem dX7_measures_118 : decode cX7_measures 118 = .ok (.aload_n 0, 1) := by decide +kernel
theorem dX7_measures_119 : decode cX7_measures 119 = .ok (.getfield 35, 3) := by decide +kernel
theorem dX7_measures_122 : decode cX7_measures 122 = .ok (.iload 4, 2) := by decide +kernel
theorem dX7_measures_124 : decode cX7_measures 124 = .ok (.iaload, 1) := by decide +kernel
theorem dX7_measures_125 : decode cX7_measures 125 = .ok (.if_icmp .ge 7, 3) := by decide +kernel
theorem dX7_measures_128 : decode cX7_measures 128 = .ok (.iconst 1, 1) := by decide +kernel
theorem dX7_measures_129 : decode cX7_measures 129 = .ok (.goto 4, 3) := by decide +kernel
theorem dX7_measures_132 : decode cX7_measures 132 = .ok (.iconst 0, 1) := by decide +kernel
theorem dX7_measures_133 : decode cX7_measures 133 = .ok (.istore 6, 2) := by decide +kernel
theorem dX7_measures_135 : decode cX7_measures 135 = .ok (.aload_n 0, 1) := by decide +kernel
theorem dX7_measures_136 : decode cX7_measures 136 = .ok (.getfield 35, 3) := by decide +kernel
theorem dX7_measures_139 : decode cX7_measures 139 = .ok (.iload 4, 2) := by decide +kernel
theorem dX7_measures_141 : decode cX7_measures 141 = .ok (.iload 6, 2) := by decide +kernel
theorem dX7_measures_143 : decode cX7_measures 143 = .ok (.ifCond .eq 15, 3) := by decide +kernel
theorem dX7_measures_146 : decode cX7_measures 146 = .ok (.aload_n 0, 1) := by decide +kernel
theorem dX7_measures_147 : decode cX7_measures 147 = .ok (.getfield 35, 3) := by decide +kernel
theorem dX7_measures_150 : decode cX7_measures 150 = .ok (.iload 5, 2) := by decide +kernel
theorem dX7_measures_152 : decode cX7_measures 152 = .ok (.iaload, 1) := by decide +kernel
theorem dX7_measures_153 : decode cX7_measures 153 = .ok (.iconst 1, 1) := by decide +kernel
theorem dX7_measures_154 : decode cX7_measures 154 = .ok (.iadd, 1) := by decide +kernel
theorem dX7_measures_155 : decode cX7_measures 155 = .ok (.goto 10, 3) := by decide +kernel
theorem dX7_measures_158 : decode cX7_measures 158 = .ok (.aload_n 0, 1) := by decide +kernel
theorem dX7_measures_159 : decode cX7_measures 159 = .ok (.getfield 35, 3) := by decide +kernel
theorem dX7_measures_162 : decode cX7_measures 162 = .ok (.iload 4, 2) := by decide +kernel
theorem dX7_measures_164 : decode cX7_measures 164 = .ok (.iaload, 1) := by decide +kernel
theorem dX7_measures_165 : decode cX7_measures 165 = .ok (.iastore, 1) := by decide +kernel
theorem dX7_measures_166 : decode cX7_measures 166 = .ok (.iload_n 3, 1) := by decide +kernel
theorem dX7_measures_167 : decode cX7_measures 167 = .ok (.ifCond .ne 8, 3) := by decide +kernel
theorem dX7_measures_170 : decode cX7_measures 170 = .ok (.iload 6, 2) := by decide +kernel
theorem dX7_measures_172 : decode cX7_measures 172 = .ok (.ifCond .eq 7, 3) := by decide +kernel
theorem dX7_measures_175 : decode cX7_measures 175 = .ok (.iconst 1, 1) := by decide +kernel
theorem dX7_measures_176 : decode cX7_measures 176 = .ok (.goto 4, 3) := by decide +kernel
theorem dX7_measures_179 : decode cX7_measures 179 = .ok (.iconst 0, 1) := by decide +kernel
theorem dX7_measures_180 : decode cX7_measures 180 = .ok (.istore_n 3, 1) := by decide +kernel
theorem dX7_measures_181 : decode cX7_measures 181 = .ok (.iinc 5 1, 3) := by decide +kernel
theorem dX7_measures_184 : decode cX7_measures 184 = .ok (.goto (-114), 3) := by decide +kernel
theorem dX7_measures_187 : decode cX7_measures 187 = .ok (.iinc 4 1, 3) := by decide +kernel
theorem dX7_measures_190 : decode cX7_measures 190 = .ok (.goto (-129), 3) := by decide +kernel
theorem dX7_measures_193 : decode cX7_measures 193 = .ok (.goto (-141), 3) := by decide +kernel
theorem dX7_measures_196 : decode cX7_measures 196 = .ok (.return_, 1) := by decide +kernel
theorem dX7_onward_0 : decode cX7_onward 0 = .ok (.bipush (-9), 2) := by decide +kernel
theorem dX7_onward_2 : decode cX7_onward 2 = .ok (.istore_n 2, 1) := by decide +kernel
theorem dX7_onward_3 : decode cX7_onward 3 = .ok (.aload_n 0, 1) := by decide +kernel
theorem dX7_onward_4 : decode cX7_onward 4 = .ok (.getfield 51, 3) := by decide +kernel
theorem dX7_onward_7 : decode cX7_onward 7 = .ok (.aload_n 0, 1) := by decide +kernel
theorem dX7_onward_8 : decode cX7_onward 8 = .ok (.getfield 54, 3) := by decide +kernel
theorem dX7_onward_11 : decode cX7_onward 11 = .ok (.imul, 1) := by decide +kernel
theorem dX7_onward_12 : decode cX7_onward 12 = .ok (.iconst 1, 1) := by decide +kernel
theorem dX7_onward_13 : decode cX7_onward 13 = .ok (.isub, 1) := by decide +kernel
theorem dX7_onward_14 : decode cX7_onward 14 = .ok (.istore_n 3, 1) := by decide +kernel
theorem dX7_onward_15 : decode cX7_onward 15 = .ok (.iload_n 3, 1) := by decide +kernel
theorem dX7_onward_16 : decode cX7_onward 16 = .ok (.ifCond .lt 51, 3) := by decide +kernel
theorem dX7_onward_19 : decode cX7_onward 19 = .ok (.aload_n 0, 1) := by decide +kernel
theorem dX7_onward_20 : decode cX7_onward 20 = .ok (.getfield 25, 3) := by decide +kernel
theorem dX7_onward_23 : decode cX7_onward 23 = .ok (.iload_n 3, 1) := by decide +kernel
theorem dX7_onward_24 : decode cX7_onward 24 = .ok (.iaload, 1) := by decide +kernel
theorem dX7_onward_25 : decode cX7_onward 25 = .ok (.iconst 1, 1) := by decide +kernel
theorem dX7_onward_26 : decode cX7_onward 26 = .ok (.if_icmp .eq 33, 3) := by decide +kernel
theorem dX7_onward_29 : decode cX7_onward 29 = .ok (.aload_n 0, 1) := by decide +kernel
theorem dX7_onward_30 : decode cX7_onward 30 = .ok (.iload_n 1, 1) := by decide +kernel
theorem dX7_onward_31 : decode cX7_onward 31 = .ok (.iload_n 3, 1) := by decide +kernel
theorem dX7_onward_32 : decode cX7_onward 32 = .ok (.invokevirtual 151, 3) := by decide +kernel
theorem dX7_onward_35 : decode cX7_onward 35 = .ok (.ifCond .eq 24, 3) := by decide +kernel
theorem dX7_onward_38 : decode cX7_onward 38 = .ok (.aload_n 0, 1) := by decide +kernel
theorem dX7_onward_39 : decode cX7_onward 39 = .ok (.getfield 35, 3) := by decide +kernel
theorem dX7_onward_42 : decode cX7_onward 42 = .ok (.iload_n 3, 1) := by decide +kernel
theorem dX7_onward_43 : decode cX7_onward 43 = .ok (.iaload, 1) := by decide +kernel
theorem dX7_onward_44 : decode cX7_onward 44 = .ok (.aload_n 0, 1) := by decide +kernel
theorem dX7_onward_45 : decode cX7_onward 45 = .ok (.getfield 35, 3) := by decide +kernel
theorem dX7_onward_48 : decode cX7_onward 48 = .ok (.iload_n 1, 1) := by decide +kernel
theorem dX7_onward_49 : decode cX7_onward 49 = .ok (.iaload, 1) := by decide +kernel
theorem dX7_onward_50 : decode cX7_onward 50 = .ok (.iconst 1, 1) := by decide +kernel
theorem dX7_onward_51 : decode cX7_onward 51 = .ok (.isub, 1) := by decide +kernel
theorem dX7_onward_52 : decode cX7_onward 52 = .ok (.if_icmp .ne 7, 3) := by decide +kernel
theorem dX7_onward_55 : decode cX7_onward 55 = .ok (.iload_n 3, 1) := by decide +kernel
theorem dX7_onward_56 : decode cX7_onward 56 = .ok (.goto 4, 3) := by decide +kernel
theorem dX7_onward_59 : decode cX7_onward 59 = .ok (.iload_n 2, 1) := by decide +kernel
theorem dX7_onward_60 : decode cX7_onward 60 = .ok (.istore_n 2, 1) := by decide +kernel
theorem dX7_onward_61 : decode cX7_onward 61 = .ok (.iinc 3 (-1), 3) := by decide +kernel
theorem dX7_onward_64 : decode cX7_onward 64 = .ok (.goto (-49), 3) := by decide +kernel
theorem dX7_onward_67 : decode cX7_onward 67 = .ok (.iload_n 2, 1) := by decide +kernel
theorem dX7_onward_68 : decode cX7_onward 68 = .ok (.ireturn, 1) := by decide +kernel
theorem dX7_stepsOf_0 : decode cX7_stepsOf 0 = .ok (.aload_n 0, 1) := by decide +kernel
theorem dX7_stepsOf_1 : decode cX7_stepsOf 1 = .ok (.iload_n 2, 1) := by decide +kernel
theorem dX7_stepsOf_2 : decode cX7_stepsOf 2 = .ok (.invokevirtual 155, 3) := by decide +kernel
theorem dX7_stepsOf_5 : decode cX7_stepsOf 5 = .ok (.aload_n 0, 1) := by decide +kernel
theorem dX7_stepsOf_6 : decode cX7_stepsOf 6 = .ok (.getfield 25, 3) := by decide +kernel
theorem dX7_stepsOf_9 : decode cX7_stepsOf 9 = .ok (.iload_n 1, 1) := by decide +kernel
theorem dX7_stepsOf_10 : decode cX7_stepsOf 10 = .ok (.iaload, 1) := by decide +kernel
theorem dX7_stepsOf_11 : decode cX7_stepsOf 11 = .ok (.iconst 1, 1) := by decide +kernel
theorem dX7_stepsOf_12 : decode cX7_stepsOf 12 = .ok (.if_icmp .eq 14, 3) := by decide +kernel
theorem dX7_stepsOf_15 : decode cX7_stepsOf 15 = .ok (.aload_n 0, 1) := by decide +kernel
theorem dX7_stepsOf_16 : decode cX7_stepsOf 16 = .ok (.getfield 35, 3) := by decide +kernel
theorem dX7_stepsOf_19 : decode cX7_stepsOf 19 = .ok (.iload_n 1, 1) := by decide +kernel
theorem dX7_stepsOf_20 : decode cX7_stepsOf 20 = .ok (.iaload, 1) := by decide +kernel
theorem dX7_stepsOf_21 : decode cX7_stepsOf 21 = .ok (.bipush 99, 2) := by decide +kernel
theorem dX7_stepsOf_23 : decode cX7_stepsOf 23 = .ok (.if_icmp .ne 8, 3) := by decide +kernel
theorem dX7_stepsOf_26 : decode cX7_stepsOf 26 = .ok (.bipush (-9), 2) := by decide +kernel
theorem dX7_stepsOf_28 : decode cX7_stepsOf 28 = .ok (.goto 9, 3) := by decide +kernel
theorem dX7_stepsOf_31 : decode cX7_stepsOf 31 = .ok (.aload_n 0, 1) := by decide +kernel
theorem dX7_stepsOf_32 : decode cX7_stepsOf 32 = .ok (.getfield 35, 3) := by decide +kernel
theorem dX7_stepsOf_35 : decode cX7_stepsOf 35 = .ok (.iload_n 1, 1) := by decide +kernel
theorem dX7_stepsOf_36 : decode cX7_stepsOf 36 = .ok (.iaload, 1) := by decide +kernel
theorem dX7_stepsOf_37 : decode cX7_stepsOf 37 = .ok (.ireturn, 1) := by decide +kernel
theorem dX7_passesAndLays_0 : decode cX7_passesAndLays 0 = .ok (.aload_n 0, 1) := by decide +kernel
theorem dX7_passesAndLays_1 : decode cX7_passesAndLays 1 = .ok (.aload_n 0, 1) := by decide +kernel
theorem dX7_passesAndLays_2 : decode cX7_passesAndLays 2 = .ok (.getfield 19, 3) := by decide +kernel
theorem dX7_passesAndLays_5 : decode cX7_passesAndLays 5 = .ok (.iconst 2, 1) := by decide +kernel
theorem dX7_passesAndLays_6 : decode cX7_passesAndLays 6 = .ok (.iload_n 1, 1) := by decide +kernel
theorem dX7_passesAndLays_7 : decode cX7_passesAndLays 7 = .ok (.imul, 1) := by decide +kernel
theorem dX7_passesAndLays_8 : decode cX7_passesAndLays 8 = .ok (.iaload, 1) := by decide +kernel
theorem dX7_passesAndLays_9 : decode cX7_passesAndLays 9 = .ok (.aload_n 0, 1) := by decide +kernel
theorem dX7_passesAndLays_10 : decode cX7_passesAndLays 10 = .ok (.getfield 19, 3) := by decide +kernel
theorem dX7_passesAndLays_13 : decode cX7_passesAndLays 13 = .ok (.iconst 2, 1) := by decide +kernel
theorem dX7_passesAndLays_14 : decode cX7_passesAndLays 14 = .ok (.iload_n 1, 1) := by decide +kernel
theorem dX7_passesAndLays_15 : decode cX7_passesAndLays 15 = .ok (.imul, 1) := by decide +kernel
theorem dX7_passesAndLays_16 : decode cX7_passesAndLays 16 = .ok (.iconst 1, 1) := by decide +kernel
theorem dX7_passesAndLays_17 : decode cX7_passesAndLays 17 = .ok (.iadd, 1) := by decide +kernel
theorem dX7_passesAndLays_18 : decode cX7_passesAndLays 18 = .ok (.iaload, 1) := by decide +kernel
theorem dX7_passesAndLays_19 : decode cX7_passesAndLays 19 = .ok (.invokevirtual 159, 3) := by decide +kernel
theorem dX7_passesAndLays_22 : decode cX7_passesAndLays 22 = .ok (.istore_n 3, 1) := by decide +kernel
theorem dX7_passesAndLays_23 : decode cX7_passesAndLays 23 = .ok (.aload_n 0, 1) := by decide +kernel
theorem dX7_passesAndLays_24 : decode cX7_passesAndLays 24 = .ok (.getfield 19, 3) := by decide +kernel
theorem dX7_passesAndLays_27 : decode cX7_passesAndLays 27 = .ok (.iconst 2, 1) := by decide +kernel
theorem dX7_passesAndLays_28 : decode cX7_passesAndLays 28 = .ok (.iload_n 1, 1) := by decide +kernel
theorem dX7_passesAndLays_29 : decode cX7_passesAndLays 29 = .ok (.imul, 1) := by decide +kernel
theorem dX7_passesAndLays_30 : decode cX7_passesAndLays 30 = .ok (.iaload, 1) := by decide +kernel
theorem dX7_passesAndLays_31 : decode cX7_passesAndLays 31 = .ok (.istore 4, 2) := by decide +kernel
theorem dX7_passesAndLays_33 : decode cX7_passesAndLays 33 = .ok (.iconst 0, 1) := by decide +kernel
theorem dX7_passesAndLays_34 : decode cX7_passesAndLays 34 = .ok (.istore 5, 2) := by decide +kernel
theorem dX7_passesAndLays_36 : decode cX7_passesAndLays 36 = .ok (.iload 5, 2) := by decide +kernel
theorem dX7_passesAndLays_38 : decode cX7_passesAndLays 38 = .ok (.iload_n 3, 1) := by decide +kernel
theorem dX7_passesAndLays_39 : decode cX7_passesAndLays 39 = .ok (.if_icmp .ge 53, 3) := by decide +kernel
theorem dX7_passesAndLays_42 : decode cX7_passesAndLays 42 = .ok (.aload_n 0, 1) := by decide +kernel
theorem dX7_passesAndLays_43 : decode cX7_passesAndLays 43 = .ok (.iload 4, 2) := by decide +kernel
theorem dX7_passesAndLays_45 : decode cX7_passesAndLays 45 = .ok (.invokevirtual 162, 3) := by decide +kernel
theorem dX7_passesAndLays_48 : decode cX7_passesAndLays 48 = .ok (.istore 4, 2) := by decide +kernel
theorem dX7_passesAndLays_50 : decode cX7_passesAndLays 50 = .ok (.aload_n 0, 1) := by decide +kernel
theorem dX7_passesAndLays_51 : decode cX7_passesAndLays 51 = .ok (.getfield 25, 3) := by decide +kernel
theorem dX7_passesAndLays_54 : decode cX7_passesAndLays 54 = .ok (.bipush 24, 2) := by decide +kernel
theorem dX7_passesAndLays_56 : decode cX7_passesAndLays 56 = .ok (.iload 4, 2) := by decide +kernel
theorem dX7_passesAndLays_58 : decode cX7_passesAndLays 58 = .ok (.iadd, 1) := by decide +kernel
theorem dX7_passesAndLays_59 : decode cX7_passesAndLays 59 = .ok (.dup2, 1) := by decide +kernel
theorem dX7_passesAndLays_60 : decode cX7_passesAndLays 60 = .ok (.iaload, 1) := by decide +kernel
theorem dX7_passesAndLays_61 : decode cX7_passesAndLays 61 = .ok (.aload_n 0, 1) := by decide +kernel
theorem dX7_passesAndLays_62 : decode cX7_passesAndLays 62 = .ok (.getfield 25, 3) := by decide +kernel
theorem dX7_passesAndLays_65 : decode cX7_passesAndLays 65 = .ok (.iload 4, 2) := by decide +kernel
theorem dX7_passesAndLays_67 : decode cX7_passesAndLays 67 = .ok (.iaload, 1) := by decide +kernel
theorem dX7_passesAndLays_68 : decode cX7_passesAndLays 68 = .ok (.iconst 2, 1) := by decide +kernel
theorem dX7_passesAndLays_69 : decode cX7_passesAndLays 69 = .ok (.if_icmp .ne 14, 3) := by decide +kernel
theorem dX7_passesAndLays_72 : decode cX7_passesAndLays 72 = .ok (.aload_n 0, 1) := by decide +kernel
theorem dX7_passesAndLays_73 : decode cX7_passesAndLays 73 = .ok (.getfield 128, 3) := by decide +kernel
theorem dX7_passesAndLays_76 : decode cX7_passesAndLays 76 = .ok (.ifCond .le 7, 3) := by decide +kernel
theorem dX7_passesAndLays_79 : decode cX7_passesAndLays 79 = .ok (.iconst 1, 1) := by decide +kernel
theorem dX7_passesAndLays_80 : decode cX7_passesAndLays 80 = .ok (.goto 4, 3) := by decide +kernel
theorem dX7_passesAndLays_83 : decode cX7_passesAndLays 83 = .ok (.iconst 0, 1) := by decide +kernel
theorem dX7_passesAndLays_84 : decode cX7_passesAndLays 84 = .ok (.isub, 1) := by decide +kernel
theorem dX7_passesAndLays_85 : decode cX7_passesAndLays 85 = .ok (.iastore, 1) := by decide +kernel
theorem dX7_passesAndLays_86 : decode cX7_passesAndLays 86 = .ok (.iinc 5 1, 3) := by decide +kernel
theorem dX7_passesAndLays_89 : decode cX7_passesAndLays 89 = .ok (.goto (-53), 3) := by decide +kernel
theorem dX7_passesAndLays_92 : decode cX7_passesAndLays 92 = .ok (.iconst 0, 1) := by decide +kernel
theorem dX7_passesAndLays_93 : decode cX7_passesAndLays 93 = .ok (.istore 5, 2) := by decide +kernel
theorem dX7_passesAndLays_95 : decode cX7_passesAndLays 95 = .ok (.iload 5, 2) := by decide +kernel
theorem dX7_passesAndLays_97 : decode cX7_passesAndLays 97 = .ok (.aload_n 0, 1) := by decide +kernel
theorem dX7_passesAndLays_98 : decode cX7_passesAndLays 98 = .ok (.getfield 51, 3) := by decide +kernel
theorem dX7_passesAndLays_101 : decode cX7_passesAndLays 101 = .ok (.aload_n 0, 1) := by decide +kernel
theorem dX7_passesAndLays_102 : decode cX7_passesAndLays 102 = .ok (.getfield 54, 3) := by decide +kernel
theorem dX7_passesAndLays_105 : decode cX7_passesAndLays 105 = .ok (.imul, 1) := by decide +kernel
theorem dX7_passesAndLays_106 : decode cX7_passesAndLays 106 = .ok (.if_icmp .ge 60, 3) := by decide +kernel
theorem dX7_passesAndLays_109 : decode cX7_passesAndLays 109 = .ok (.aload_n 0, 1) := by decide +kernel
theorem dX7_passesAndLays_110 : decode cX7_passesAndLays 110 = .ok (.getfield 25, 3) := by decide +kernel
theorem dX7_passesAndLays_113 : decode cX7_passesAndLays 113 = .ok (.iload 5, 2) := by decide +kernel
theorem dX7_passesAndLays_115 : decode cX7_passesAndLays 115 = .ok (.iaload, 1) := by decide +kernel
theorem dX7_passesAndLays_116 : decode cX7_passesAndLays 116 = .ok (.iconst 2, 1) := by decide +kernel
theorem dX7_passesAndLays_117 : decode cX7_passesAndLays 117 = .ok (.if_icmp .ne 43, 3) := by decide +kernel
theorem dX7_passesAndLays_120 : decode cX7_passesAndLays 120 = .ok (.aload_n 0, 1) := by decide +kernel
theorem dX7_passesAndLays_121 : decode cX7_passesAndLays 121 = .ok (.getfield 128, 3) := by decide +kernel
theorem dX7_passesAndLays_124 : decode cX7_passesAndLays 124 = .ok (.ifCond .le 36, 3) := by decide +kernel
theorem dX7_passesAndLays_127 : decode cX7_passesAndLays 127 = .ok (.aload_n 0, 1) := by decide +kernel
theorem dX7_passesAndLays_128 : decode cX7_passesAndLays 128 = .ok (.getfield 25, 3) := by decide +kernel
theorem dX7_passesAndLays_131 : decode cX7_passesAndLays 131 = .ok (.bipush 24, 2) := by decide +kernel
theorem dX7_passesAndLays_133 : decode cX7_passesAndLays 133 = .ok (.iload 5, 2) := by decide +kernel
theorem dX7_passesAndLays_135 : decode cX7_passesAndLays 135 = .ok (.iadd, 1) := by decide +kernel
theorem dX7_passesAndLays_136 : decode cX7_passesAndLays 136 = .ok (.iaload, 1) := by decide +kernel
theorem dX7_passesAndLays_137 : decode cX7_passesAndLays 137 = .ok (.ifCond .ne 23, 3) := by decide +kernel
theorem dX7_passesAndLays_140 : decode cX7_passesAndLays 140 = .ok (.aload_n 0, 1) := by decide +kernel
theorem dX7_passesAndLays_141 : decode cX7_passesAndLays 141 = .ok (.getfield 25, 3) := by decide +kernel
theorem dX7_passesAndLays_144 : decode cX7_passesAndLays 144 = .ok (.iload 5, 2) := by decide +kernel
theorem dX7_passesAndLays_146 : decode cX7_passesAndLays 146 = .ok (.iconst 1, 1) := by decide +kernel
theorem dX7_passesAndLays_147 : decode cX7_passesAndLays 147 = .ok (.iastore, 1) := by decide +kernel
theorem dX7_passesAndLays_148 : decode cX7_passesAndLays 148 = .ok (.aload_n 0, 1) := by decide +kernel
theorem dX7_passesAndLays_149 : decode cX7_passesAndLays 149 = .ok (.getfield 25, 3) := by decide +kernel
theorem dX7_passesAndLays_152 : decode cX7_passesAndLays 152 = .ok (.bipush 48, 2) := by decide +kernel
theorem dX7_passesAndLays_154 : decode cX7_passesAndLays 154 = .ok (.iload 5, 2) := by decide +kernel
theorem dX7_passesAndLays_156 : decode cX7_passesAndLays 156 = .ok (.iadd, 1) := by decide +kernel
theorem dX7_passesAndLays_157 : decode cX7_passesAndLays 157 = .ok (.bipush (-9), 2) := by decide +kernel
theorem dX7_passesAndLays_159 : decode cX7_passesAndLays 159 = .ok (.iastore, 1) := by decide +kernel
theorem dX7_passesAndLays_160 : decode cX7_passesAndLays 160 = .ok (.iinc 5 1, 3) := by decide +kernel
theorem dX7_passesAndLays_163 : decode cX7_passesAndLays 163 = .ok (.goto (-68), 3) := by decide +kernel
theorem dX7_passesAndLays_166 : decode cX7_passesAndLays 166 = .ok (.aload_n 0, 1) := by decide +kernel
theorem dX7_passesAndLays_167 : decode cX7_passesAndLays 167 = .ok (.getfield 25, 3) := by decide +kernel
theorem dX7_passesAndLays_170 : decode cX7_passesAndLays 170 = .ok (.iload_n 2, 1) := by decide +kernel
theorem dX7_passesAndLays_171 : decode cX7_passesAndLays 171 = .ok (.iconst 2, 1) := by decide +kernel
theorem dX7_passesAndLays_172 : decode cX7_passesAndLays 172 = .ok (.iastore, 1) := by decide +kernel
theorem dX7_passesAndLays_173 : decode cX7_passesAndLays 173 = .ok (.aload_n 0, 1) := by decide +kernel
theorem dX7_passesAndLays_174 : decode cX7_passesAndLays 174 = .ok (.getfield 25, 3) := by decide +kernel
theorem dX7_passesAndLays_177 : decode cX7_passesAndLays 177 = .ok (.bipush 24, 2) := by decide +kernel
theorem dX7_passesAndLays_179 : decode cX7_passesAndLays 179 = .ok (.iload_n 2, 1) := by decide +kernel
theorem dX7_passesAndLays_180 : decode cX7_passesAndLays 180 = .ok (.iadd, 1) := by decide +kernel
theorem dX7_passesAndLays_181 : decode cX7_passesAndLays 181 = .ok (.aload_n 0, 1) := by decide +kernel
theorem dX7_passesAndLays_182 : decode cX7_passesAndLays 182 = .ok (.getfield 128, 3) := by decide +kernel
theorem dX7_passesAndLays_185 : decode cX7_passesAndLays 185 = .ok (.iastore, 1) := by decide +kernel
theorem dX7_passesAndLays_186 : decode cX7_passesAndLays 186 = .ok (.aload_n 0, 1) := by decide +kernel
theorem dX7_passesAndLays_187 : decode cX7_passesAndLays 187 = .ok (.getfield 25, 3) := by decide +kernel
theorem dX7_passesAndLays_190 : decode cX7_passesAndLays 190 = .ok (.bipush 48, 2) := by decide +kernel
theorem dX7_passesAndLays_192 : decode cX7_passesAndLays 192 = .ok (.iload_n 2, 1) := by decide +kernel
theorem dX7_passesAndLays_193 : decode cX7_passesAndLays 193 = .ok (.iadd, 1) := by decide +kernel
theorem dX7_passesAndLays_194 : decode cX7_passesAndLays 194 = .ok (.iload_n 1, 1) := by decide +kernel
theorem dX7_passesAndLays_195 : decode cX7_passesAndLays 195 = .ok (.iastore, 1) := by decide +kernel
theorem dX7_passesAndLays_196 : decode cX7_passesAndLays 196 = .ok (.aload_n 0, 1) := by decide +kernel
theorem dX7_passesAndLays_197 : decode cX7_passesAndLays 197 = .ok (.getfield 25, 3) := by decide +kernel
theorem dX7_passesAndLays_200 : decode cX7_passesAndLays 200 = .ok (.bipush 72, 2) := by decide +kernel
theorem dX7_passesAndLays_202 : decode cX7_passesAndLays 202 = .ok (.iload_n 1, 1) := by decide +kernel
theorem dX7_passesAndLays_203 : decode cX7_passesAndLays 203 = .ok (.iadd, 1) := by decide +kernel
theorem dX7_passesAndLays_204 : decode cX7_passesAndLays 204 = .ok (.dup2, 1) := by decide +kernel
theorem dX7_passesAndLays_205 : decode cX7_passesAndLays 205 = .ok (.iaload, 1) := by decide +kernel
theorem dX7_passesAndLays_206 : decode cX7_passesAndLays 206 = .ok (.iconst 1, 1) := by decide +kernel
theorem dX7_passesAndLays_207 : decode cX7_passesAndLays 207 = .ok (.iadd, 1) := by decide +kernel
theorem dX7_passesAndLays_208 : decode cX7_passesAndLays 208 = .ok (.iastore, 1) := by decide +kernel
theorem dX7_passesAndLays_209 : decode cX7_passesAndLays 209 = .ok (.return_, 1) := by decide +kernel
theorem dX7_passes_0 : decode cX7_passes 0 = .ok (.aload_n 0, 1) := by decide +kernel
theorem dX7_passes_1 : decode cX7_passes 1 = .ok (.iconst 0, 1) := by decide +kernel
theorem dX7_passes_2 : decode cX7_passes 2 = .ok (.putfield 47, 3) := by decide +kernel
theorem dX7_passes_5 : decode cX7_passes 5 = .ok (.aload_n 0, 1) := by decide +kernel
theorem dX7_passes_6 : decode cX7_passes 6 = .ok (.iload_n 1, 1) := by decide +kernel
theorem dX7_passes_7 : decode cX7_passes 7 = .ok (.invokevirtual 141, 3) := by decide +kernel
theorem dX7_passes_10 : decode cX7_passes 10 = .ok (.ifCond .eq 11, 3) := by decide +kernel
theorem dX7_passes_13 : decode cX7_passes 13 = .ok (.aload_n 0, 1) := by decide +kernel
theorem dX7_passes_14 : decode cX7_passes 14 = .ok (.iload_n 2, 1) := by decide +kernel
theorem dX7_passes_15 : decode cX7_passes 15 = .ok (.invokevirtual 137, 3) := by decide +kernel
theorem dX7_passes_18 : decode cX7_passes 18 = .ok (.ifCond .ne 5, 3) := by decide +kernel
theorem dX7_passes_21 : decode cX7_passes 21 = .ok (.iconst (-1), 1) := by decide +kernel
theorem dX7_passes_22 : decode cX7_passes 22 = .ok (.ireturn, 1) := by decide +kernel
theorem dX7_passes_23 : decode cX7_passes 23 = .ok (.aload_n 0, 1) := by decide +kernel
theorem dX7_passes_24 : decode cX7_passes 24 = .ok (.aload_n 0, 1) := by decide +kernel
theorem dX7_passes_25 : decode cX7_passes 25 = .ok (.getfield 19, 3) := by decide +kernel
theorem dX7_passes_28 : decode cX7_passes 28 = .ok (.iconst 2, 1) := by decide +kernel
theorem dX7_passes_29 : decode cX7_passes 29 = .ok (.iload_n 1, 1) := by decide +kernel
theorem dX7_passes_30 : decode cX7_passes 30 = .ok (.imul, 1) := by decide +kernel
theorem dX7_passes_31 : decode cX7_passes 31 = .ok (.iaload, 1) := by decide +kernel
theorem dX7_passes_32 : decode cX7_passes 32 = .ok (.aload_n 0, 1) := by decide +kernel
theorem dX7_passes_33 : decode cX7_passes 33 = .ok (.getfield 19, 3) := by decide +kernel
theorem dX7_passes_36 : decode cX7_passes 36 = .ok (.iconst 2, 1) := by decide +kernel
theorem dX7_passes_37 : decode cX7_passes 37 = .ok (.iload_n 1, 1) := by decide +kernel
theorem dX7_passes_38 : decode cX7_passes 38 = .ok (.imul, 1) := by decide +kernel
theorem dX7_passes_39 : decode cX7_passes 39 = .ok (.iconst 1, 1) := by decide +kernel
theorem dX7_passes_40 : decode cX7_passes 40 = .ok (.iadd, 1) := by decide +kernel
theorem dX7_passes_41 : decode cX7_passes 41 = .ok (.iaload, 1) := by decide +kernel
theorem dX7_passes_42 : decode cX7_passes 42 = .ok (.invokevirtual 159, 3) := by decide +kernel
theorem dX7_passes_45 : decode cX7_passes 45 = .ok (.istore_n 3, 1) := by decide +kernel
theorem dX7_passes_46 : decode cX7_passes 46 = .ok (.iload_n 3, 1) := by decide +kernel
theorem dX7_passes_47 : decode cX7_passes 47 = .ok (.bipush (-9), 2) := by decide +kernel
theorem dX7_passes_49 : decode cX7_passes 49 = .ok (.if_icmp .eq 13, 3) := by decide +kernel
theorem dX7_passes_52 : decode cX7_passes 52 = .ok (.aload_n 0, 1) := by decide +kernel
theorem dX7_passes_53 : decode cX7_passes 53 = .ok (.getfield 25, 3) := by decide +kernel
theorem dX7_passes_56 : decode cX7_passes 56 = .ok (.iload_n 2, 1) := by decide +kernel
theorem dX7_passes_57 : decode cX7_passes 57 = .ok (.iaload, 1) := by decide +kernel
theorem dX7_passes_58 : decode cX7_passes 58 = .ok (.iconst 1, 1) := by decide +kernel
theorem dX7_passes_59 : decode cX7_passes 59 = .ok (.if_icmp .eq 6, 3) := by decide +kernel
theorem dX7_passes_62 : decode cX7_passes 62 = .ok (.bipush (-2), 2) := by decide +kernel
theorem dX7_passes_64 : decode cX7_passes 64 = .ok (.ireturn, 1) := by decide +kernel
theorem dX7_passes_65 : decode cX7_passes 65 = .ok (.aload_n 0, 1) := by decide +kernel
theorem dX7_passes_66 : decode cX7_passes 66 = .ok (.iload_n 1, 1) := by decide +kernel
theorem dX7_passes_67 : decode cX7_passes 67 = .ok (.iload_n 2, 1) := by decide +kernel
theorem dX7_passes_68 : decode cX7_passes 68 = .ok (.invokevirtual 165, 3) := by decide +kernel
theorem dX7_passes_71 : decode cX7_passes 71 = .ok (.iload_n 3, 1) := by decide +kernel
theorem dX7_passes_72 : decode cX7_passes 72 = .ok (.ireturn, 1) := by decide +kernel
theorem dX7_likesOf_0 : decode cX7_likesOf 0 = .ok (.bipush (-9), 2) := by decide +kernel
theorem dX7_likesOf_2 : decode cX7_likesOf 2 = .ok (.istore_n 2, 1) := by decide +kernel
theorem dX7_likesOf_3 : decode cX7_likesOf 3 = .ok (.bipush 100, 2) := by decide +kernel
theorem dX7_likesOf_5 : decode cX7_likesOf 5 = .ok (.istore_n 3, 1) := by decide +kernel
theorem dX7_likesOf_6 : decode cX7_likesOf 6 = .ok (.iconst 0, 1) := by decide +kernel
theorem dX7_likesOf_7 : decode cX7_likesOf 7 = .ok (.istore 4, 2) := by decide +kernel
theorem dX7_likesOf_9 : decode cX7_likesOf 9 = .ok (.iload 4, 2) := by decide +kernel
theorem dX7_likesOf_11 : decode cX7_likesOf 11 = .ok (.aload_n 0, 1) := by decide +kernel
theorem dX7_likesOf_12 : decode cX7_likesOf 12 = .ok (.getfield 51, 3) := by decide +kernel
theorem dX7_likesOf_15 : decode cX7_likesOf 15 = .ok (.aload_n 0, 1) := by decide +kernel
theorem dX7_likesOf_16 : decode cX7_likesOf 16 = .ok (.getfield 54, 3) := by decide +kernel
theorem dX7_likesOf_19 : decode cX7_likesOf 19 = .ok (.imul, 1) := by decide +kernel
theorem dX7_likesOf_20 : decode cX7_likesOf 20 = .ok (.if_icmp .ge 102, 3) := by decide +kernel
theorem dX7_likesOf_23 : decode cX7_likesOf 23 = .ok (.aload_n 0, 1) := by decide +kernel
theorem dX7_likesOf_24 : decode cX7_likesOf 24 = .ok (.getfield 25, 3) := by decide +kernel
theorem dX7_likesOf_27 : decode cX7_likesOf 27 = .ok (.iload 4, 2) := by decide +kernel
theorem dX7_likesOf_29 : decode cX7_likesOf 29 = .ok (.iaload, 1) := by decide +kernel
theorem dX7_likesOf_30 : decode cX7_likesOf 30 = .ok (.iconst 1, 1) := by decide +kernel
theorem dX7_likesOf_31 : decode cX7_likesOf 31 = .ok (.if_icmp .ne 85, 3) := by decide +kernel
theorem dX7_likesOf_34 : decode cX7_likesOf 34 = .ok (.aload_n 0, 1) := by decide +kernel
theorem dX7_likesOf_35 : decode cX7_likesOf 35 = .ok (.getfield 25, 3) := by decide +kernel
theorem dX7_likesOf_38 : decode cX7_likesOf 38 = .ok (.iload 4, 2) := by decide +kernel
theorem dX7_likesOf_40 : decode cX7_likesOf 40 = .ok (.iconst 2, 1) := by decide +kernel
theorem dX7_likesOf_41 : decode cX7_likesOf 41 = .ok (.iastore, 1) := by decide +kernel
theorem dX7_likesOf_42 : decode cX7_likesOf 42 = .ok (.aload_n 0, 1) := by decide +kernel
theorem dX7_likesOf_43 : decode cX7_likesOf 43 = .ok (.aload_n 0, 1) := by decide +kernel
theorem dX7_likesOf_44 : decode cX7_likesOf 44 = .ok (.getfield 19, 3) := by decide +kernel
theorem dX7_likesOf_47 : decode cX7_likesOf 47 = .ok (.iconst 2, 1) := by decide +kernel
theorem dX7_likesOf_48 : decode cX7_likesOf 48 = .ok (.iload_n 1, 1) := by decide +kernel
theorem dX7_likesOf_49 : decode cX7_likesOf 49 = .ok (.imul, 1) := by decide +kernel
theorem dX7_likesOf_50 : decode cX7_likesOf 50 = .ok (.iaload, 1) := by decide +kernel
theorem dX7_likesOf_51 : decode cX7_likesOf 51 = .ok (.aload_n 0, 1) := by decide +kernel
theorem dX7_likesOf_52 : decode cX7_likesOf 52 = .ok (.getfield 19, 3) := by decide +kernel
theorem dX7_likesOf_55 : decode cX7_likesOf 55 = .ok (.iconst 2, 1) := by decide +kernel
theorem dX7_likesOf_56 : decode cX7_likesOf 56 = .ok (.iload_n 1, 1) := by decide +kernel
theorem dX7_likesOf_57 : decode cX7_likesOf 57 = .ok (.imul, 1) := by decide +kernel
theorem dX7_likesOf_58 : decode cX7_likesOf 58 = .ok (.iconst 1, 1) := by decide +kernel
theorem dX7_likesOf_59 : decode cX7_likesOf 59 = .ok (.iadd, 1) := by decide +kernel
theorem dX7_likesOf_60 : decode cX7_likesOf 60 = .ok (.iaload, 1) := by decide +kernel
theorem dX7_likesOf_61 : decode cX7_likesOf 61 = .ok (.invokevirtual 159, 3) := by decide +kernel
theorem dX7_likesOf_64 : decode cX7_likesOf 64 = .ok (.istore 5, 2) := by decide +kernel
theorem dX7_likesOf_66 : decode cX7_likesOf 66 = .ok (.aload_n 0, 1) := by decide +kernel
theorem dX7_likesOf_67 : decode cX7_likesOf 67 = .ok (.getfield 25, 3) := by decide +kernel
theorem dX7_likesOf_70 : decode cX7_likesOf 70 = .ok (.iload 4, 2) := by decide +kernel
theorem dX7_likesOf_72 : decode cX7_likesOf 72 = .ok (.iconst 1, 1) := by decide +kernel
theorem dX7_likesOf_73 : decode cX7_likesOf 73 = .ok (.iastore, 1) := by decide +kernel
theorem dX7_likesOf_74 : decode cX7_likesOf 74 = .ok (.iload 5, 2) := by decide +kernel
theorem dX7_likesOf_76 : decode cX7_likesOf 76 = .ok (.bipush (-9), 2) := by decide +kernel
theorem dX7_likesOf_78 : decode cX7_likesOf 78 = .ok (.if_icmp .ne 8, 3) := by decide +kernel
theorem dX7_likesOf_81 : decode cX7_likesOf 81 = .ok (.bipush 99, 2) := by decide +kernel
theorem dX7_likesOf_83 : decode cX7_likesOf 83 = .ok (.goto 5, 3) := by decide +kernel
theorem dX7_likesOf_86 : decode cX7_likesOf 86 = .ok (.iload 5, 2) := by decide +kernel
theorem dX7_likesOf_88 : decode cX7_likesOf 88 = .ok (.istore 5, 2) := by decide +kernel
theorem dX7_likesOf_90 : decode cX7_likesOf 90 = .ok (.iload 5, 2) := by decide +kernel
theorem dX7_likesOf_92 : decode cX7_likesOf 92 = .ok (.iload_n 3, 1) := by decide +kernel
theorem dX7_likesOf_93 : decode cX7_likesOf 93 = .ok (.if_icmp .ge 8, 3) := by decide +kernel
theorem dX7_likesOf_96 : decode cX7_likesOf 96 = .ok (.iload 4, 2) := by decide +kernel
theorem dX7_likesOf_98 : decode cX7_likesOf 98 = .ok (.goto 4, 3) := by decide +kernel
theorem dX7_likesOf_101 : decode cX7_likesOf 101 = .ok (.iload_n 2, 1) := by decide +kernel
theorem dX7_likesOf_102 : decode cX7_likesOf 102 = .ok (.istore_n 2, 1) := by decide +kernel
theorem dX7_likesOf_103 : decode cX7_likesOf 103 = .ok (.iload 5, 2) := by decide +kernel
theorem dX7_likesOf_105 : decode cX7_likesOf 105 = .ok (.iload_n 3, 1) := by decide +kernel
theorem dX7_likesOf_106 : decode cX7_likesOf 106 = .ok (.if_icmp .ge 8, 3) := by decide +kernel
theorem dX7_likesOf_109 : decode cX7_likesOf 109 = .ok (.iload 5, 2) := by decide +kernel
theorem dX7_likesOf_111 : decode cX7_likesOf 111 = .ok (.goto 4, 3) := by decide +kernel
theorem dX7_likesOf_114 : decode cX7_likesOf 114 = .ok (.iload_n 3, 1) := by decide +kernel
theorem dX7_likesOf_115 : decode cX7_likesOf 115 = .ok (.istore_n 3, 1) := by decide +kernel
theorem dX7_likesOf_116 : decode cX7_likesOf 116 = .ok (.iinc 4 1, 3) := by decide +kernel
theorem dX7_likesOf_119 : decode cX7_likesOf 119 = .ok (.goto (-110), 3) := by decide +kernel
theorem dX7_likesOf_122 : decode cX7_likesOf 122 = .ok (.iload_n 2, 1) := by decide +kernel
theorem dX7_likesOf_123 : decode cX7_likesOf 123 = .ok (.ireturn, 1) := by decide +kernel
theorem dX7_days_0 : decode cX7_days 0 = .ok (.aload_n 0, 1) := by decide +kernel
theorem dX7_days_1 : decode cX7_days 1 = .ok (.iconst 0, 1) := by decide +kernel
theorem dX7_days_2 : decode cX7_days 2 = .ok (.putfield 47, 3) := by decide +kernel
theorem dX7_days_5 : decode cX7_days 5 = .ok (.iload_n 1, 1) := by decide +kernel
theorem dX7_days_6 : decode cX7_days 6 = .ok (.iconst 1, 1) := by decide +kernel
theorem dX7_days_7 : decode cX7_days 7 = .ok (.bipush 9, 2) := by decide +kernel
theorem dX7_days_9 : decode cX7_days 9 = .ok (.invokestatic 57, 3) := by decide +kernel
theorem dX7_days_12 : decode cX7_days 12 = .ok (.ifCond .ne 5, 3) := by decide +kernel
theorem dX7_days_15 : decode cX7_days 15 = .ok (.iconst (-1), 1) := by decide +kernel
theorem dX7_days_16 : decode cX7_days 16 = .ok (.ireturn, 1) := by decide +kernel
theorem dX7_days_17 : decode cX7_days 17 = .ok (.iconst 0, 1) := by decide +kernel
theorem dX7_days_18 : decode cX7_days 18 = .ok (.istore_n 2, 1) := by decide +kernel
theorem dX7_days_19 : decode cX7_days 19 = .ok (.iconst 0, 1) := by decide +kernel
theorem dX7_days_20 : decode cX7_days 20 = .ok (.istore_n 3, 1) := by decide +kernel
theorem dX7_days_21 : decode cX7_days 21 = .ok (.iload_n 3, 1) := by decide +kernel
theorem dX7_days_22 : decode cX7_days 22 = .ok (.iload_n 1, 1) := by decide +kernel
theorem dX7_days_23 : decode cX7_days 23 = .ok (.aload_n 0, 1) := by decide +kernel
theorem dX7_days_24 : decode cX7_days 24 = .ok (.getfield 61, 3) := by decide +kernel
theorem dX7_days_27 : decode cX7_days 27 = .ok (.imul, 1) := by decide +kernel
theorem dX7_days_28 : decode cX7_days 28 = .ok (.if_icmp .ge 75, 3) := by decide +kernel
theorem dX7_days_31 : decode cX7_days 31 = .ok (.iload_n 3, 1) := by decide +kernel
theorem dX7_days_32 : decode cX7_days 32 = .ok (.aload_n 0, 1) := by decide +kernel
theorem dX7_days_33 : decode cX7_days 33 = .ok (.getfield 61, 3) := by decide +kernel
theorem dX7_days_36 : decode cX7_days 36 = .ok (.irem, 1) := by decide +kernel
theorem dX7_days_37 : decode cX7_days 37 = .ok (.istore 4, 2) := by decide +kernel
theorem dX7_days_39 : decode cX7_days 39 = .ok (.aload_n 0, 1) := by decide +kernel
theorem dX7_days_40 : decode cX7_days 40 = .ok (.iload 4, 2) := by decide +kernel
theorem dX7_days_42 : decode cX7_days 42 = .ok (.invokevirtual 169, 3) := by decide +kernel
theorem dX7_days_45 : decode cX7_days 45 = .ok (.istore 5, 2) := by decide +kernel
theorem dX7_days_47 : decode cX7_days 47 = .ok (.iload 5, 2) := by decide +kernel
theorem dX7_days_49 : decode cX7_days 49 = .ok (.bipush (-9), 2) := by decide +kernel
theorem dX7_days_51 : decode cX7_days 51 = .ok (.if_icmp .eq 32, 3) := by decide +kernel
theorem dX7_days_54 : decode cX7_days 54 = .ok (.aload_n 0, 1) := by decide +kernel
theorem dX7_days_55 : decode cX7_days 55 = .ok (.aload_n 0, 1) := by decide +kernel
theorem dX7_days_56 : decode cX7_days 56 = .ok (.getfield 19, 3) := by decide +kernel
theorem dX7_days_59 : decode cX7_days 59 = .ok (.iconst 2, 1) := by decide +kernel
theorem dX7_days_60 : decode cX7_days 60 = .ok (.iload 4, 2) := by decide +kernel
theorem dX7_days_62 : decode cX7_days 62 = .ok (.imul, 1) := by decide +kernel
theorem dX7_days_63 : decode cX7_days 63 = .ok (.iaload, 1) := by decide +kernel
theorem dX7_days_64 : decode cX7_days 64 = .ok (.aload_n 0, 1) := by decide +kernel
theorem dX7_days_65 : decode cX7_days 65 = .ok (.getfield 19, 3) := by decide +kernel
theorem dX7_days_68 : decode cX7_days 68 = .ok (.iconst 2, 1) := by decide +kernel
theorem dX7_days_69 : decode cX7_days 69 = .ok (.iload 4, 2) := by decide +kernel
theorem dX7_days_71 : decode cX7_days 71 = .ok (.imul, 1) := by decide +kernel
theorem dX7_days_72 : decode cX7_days 72 = .ok (.iconst 1, 1) := by decide +kernel
theorem dX7_days_73 : decode cX7_days 73 = .ok (.iadd, 1) := by decide +kernel
theorem dX7_days_74 : decode cX7_days 74 = .ok (.iaload, 1) := by decide +kernel
theorem dX7_days_75 : decode cX7_days 75 = .ok (.invokevirtual 159, 3) := by decide +kernel
theorem dX7_days_78 : decode cX7_days 78 = .ok (.bipush (-9), 2) := by decide +kernel
theorem dX7_days_80 : decode cX7_days 80 = .ok (.if_icmp .ne 9, 3) := by decide +kernel
theorem dX7_days_83 : decode cX7_days 83 = .ok (.iinc 2 1, 3) := by decide +kernel
theorem dX7_days_86 : decode cX7_days 86 = .ok (.goto 11, 3) := by decide +kernel
theorem dX7_days_89 : decode cX7_days 89 = .ok (.aload_n 0, 1) := by decide +kernel
theorem dX7_days_90 : decode cX7_days 90 = .ok (.iload 4, 2) := by decide +kernel
theorem dX7_days_92 : decode cX7_days 92 = .ok (.iload 5, 2) := by decide +kernel
theorem dX7_days_94 : decode cX7_days 94 = .ok (.invokevirtual 165, 3) := by decide +kernel
theorem dX7_days_97 : decode cX7_days 97 = .ok (.iinc 3 1, 3) := by decide +kernel
theorem dX7_days_100 : decode cX7_days 100 = .ok (.goto (-79), 3) := by decide +kernel
theorem dX7_days_103 : decode cX7_days 103 = .ok (.iload_n 2, 1) := by decide +kernel
theorem dX7_days_104 : decode cX7_days 104 = .ok (.ireturn, 1) := by decide +kernel
theorem dX7_passedInAll_0 : decode cX7_passedInAll 0 = .ok (.aload_n 0, 1) := by decide +kernel
theorem dX7_passedInAll_1 : decode cX7_passedInAll 1 = .ok (.getfield 25, 3) := by decide +kernel
theorem dX7_passedInAll_4 : decode cX7_passedInAll 4 = .ok (.bipush 72, 2) := by decide +kernel
theorem dX7_passedInAll_6 : decode cX7_passedInAll 6 = .ok (.iaload, 1) := by decide +kernel
theorem dX7_passedInAll_7 : decode cX7_passedInAll 7 = .ok (.aload_n 0, 1) := by decide +kernel
theorem dX7_passedInAll_8 : decode cX7_passedInAll 8 = .ok (.getfield 25, 3) := by decide +kernel
theorem dX7_passedInAll_11 : decode cX7_passedInAll 11 = .ok (.bipush 73, 2) := by decide +kernel
theorem dX7_passedInAll_13 : decode cX7_passedInAll 13 = .ok (.iaload, 1) := by decide +kernel
theorem dX7_passedInAll_14 : decode cX7_passedInAll 14 = .ok (.iadd, 1) := by decide +kernel
theorem dX7_passedInAll_15 : decode cX7_passedInAll 15 = .ok (.aload_n 0, 1) := by decide +kernel
theorem dX7_passedInAll_16 : decode cX7_passedInAll 16 = .ok (.getfield 25, 3) := by decide +kernel
theorem dX7_passedInAll_19 : decode cX7_passedInAll 19 = .ok (.bipush 74, 2) := by decide +kernel
theorem dX7_passedInAll_21 : decode cX7_passedInAll 21 = .ok (.iaload, 1) := by decide +kernel
theorem dX7_passedInAll_22 : decode cX7_passedInAll 22 = .ok (.iadd, 1) := by decide +kernel
theorem dX7_passedInAll_23 : decode cX7_passedInAll 23 = .ok (.aload_n 0, 1) := by decide +kernel
theorem dX7_passedInAll_24 : decode cX7_passedInAll 24 = .ok (.getfield 25, 3) := by decide +kernel
theorem dX7_passedInAll_27 : decode cX7_passedInAll 27 = .ok (.bipush 75, 2) := by decide +kernel
theorem dX7_passedInAll_29 : decode cX7_passedInAll 29 = .ok (.iaload, 1) := by decide +kernel
theorem dX7_passedInAll_30 : decode cX7_passedInAll 30 = .ok (.iadd, 1) := by decide +kernel
theorem dX7_passedInAll_31 : decode cX7_passedInAll 31 = .ok (.ireturn, 1) := by decide +kernel
theorem dX7_many_0 : decode cX7_many 0 = .ok (.iconst 0, 1) := by decide +kernel
theorem dX7_many_1 : decode cX7_many 1 = .ok (.istore_n 2, 1) := by decide +kernel
theorem dX7_many_2 : decode cX7_many 2 = .ok (.iconst 0, 1) := by decide +kernel
theorem dX7_many_3 : decode cX7_many 3 = .ok (.istore_n 3, 1) := by decide +kernel
theorem dX7_many_4 : decode cX7_many 4 = .ok (.iload_n 3, 1) := by decide +kernel
theorem dX7_many_5 : decode cX7_many 5 = .ok (.aload_n 0, 1) := by decide +kernel
theorem dX7_many_6 : decode cX7_many 6 = .ok (.getfield 51, 3) := by decide +kernel
theorem dX7_many_9 : decode cX7_many 9 = .ok (.aload_n 0, 1) := by decide +kernel
theorem dX7_many_10 : decode cX7_many 10 = .ok (.getfield 54, 3) := by decide +kernel
theorem dX7_many_13 : decode cX7_many 13 = .ok (.imul, 1) := by decide +kernel
theorem dX7_many_14 : decode cX7_many 14 = .ok (.if_icmp .ge 27, 3) := by decide +kernel
theorem dX7_many_17 : decode cX7_many 17 = .ok (.iload_n 2, 1) := by decide +kernel
theorem dX7_many_18 : decode cX7_many 18 = .ok (.aload_n 0, 1) := by decide +kernel
theorem dX7_many_19 : decode cX7_many 19 = .ok (.getfield 25, 3) := by decide +kernel
theorem dX7_many_22 : decode cX7_many 22 = .ok (.iload_n 3, 1) := by decide +kernel
theorem dX7_many_23 : decode cX7_many 23 = .ok (.iaload, 1) := by decide +kernel
theorem dX7_many_24 : decode cX7_many 24 = .ok (.iload_n 1, 1) := by decide +kernel
theorem dX7_many_25 : decode cX7_many 25 = .ok (.if_icmp .ne 7, 3) := by decide +kernel
theorem dX7_many_28 : decode cX7_many 28 = .ok (.iconst 1, 1) := by decide +kernel
theorem dX7_many_29 : decode cX7_many 29 = .ok (.goto 4, 3) := by decide +kernel
theorem dX7_many_32 : decode cX7_many 32 = .ok (.iconst 0, 1) := by decide +kernel
theorem dX7_many_33 : decode cX7_many 33 = .ok (.iadd, 1) := by decide +kernel
theorem dX7_many_34 : decode cX7_many 34 = .ok (.istore_n 2, 1) := by decide +kernel
theorem dX7_many_35 : decode cX7_many 35 = .ok (.iinc 3 1, 3) := by decide +kernel
theorem dX7_many_38 : decode cX7_many 38 = .ok (.goto (-34), 3) := by decide +kernel
theorem dX7_many_41 : decode cX7_many 41 = .ok (.iload_n 2, 1) := by decide +kernel
theorem dX7_many_42 : decode cX7_many 42 = .ok (.ireturn, 1) := by decide +kernel
theorem dX7_now_0 : decode cX7_now 0 = .ok (.aload_n 0, 1) := by decide +kernel
theorem dX7_now_1 : decode cX7_now 1 = .ok (.iconst 0, 1) := by decide +kernel
theorem dX7_now_2 : decode cX7_now 2 = .ok (.putfield 47, 3) := by decide +kernel
theorem dX7_now_5 : decode cX7_now 5 = .ok (.iload_n 1, 1) := by decide +kernel
theorem dX7_now_6 : decode cX7_now 6 = .ok (.iconst 0, 1) := by decide +kernel
theorem dX7_now_7 : decode cX7_now 7 = .ok (.iconst 3, 1) := by decide +kernel
theorem dX7_now_8 : decode cX7_now 8 = .ok (.invokestatic 57, 3) := by decide +kernel
theorem dX7_now_11 : decode cX7_now 11 = .ok (.ifCond .ne 7, 3) := by decide +kernel
theorem dX7_now_14 : decode cX7_now 14 = .ok (.iconst (-1), 1) := by decide +kernel
theorem dX7_now_15 : decode cX7_now 15 = .ok (.goto 20, 3) := by decide +kernel
theorem dX7_now_18 : decode cX7_now 18 = .ok (.iload_n 1, 1) := by decide +kernel
theorem dX7_now_19 : decode cX7_now 19 = .ok (.iconst 3, 1) := by decide +kernel
theorem dX7_now_20 : decode cX7_now 20 = .ok (.if_icmp .ge 11, 3) := by decide +kernel
theorem dX7_now_23 : decode cX7_now 23 = .ok (.aload_n 0, 1) := by decide +kernel
theorem dX7_now_24 : decode cX7_now 24 = .ok (.iload_n 1, 1) := by decide +kernel
theorem dX7_now_25 : decode cX7_now 25 = .ok (.invokevirtual 172, 3) := by decide +kernel
theorem dX7_now_28 : decode cX7_now 28 = .ok (.goto 7, 3) := by decide +kernel
theorem dX7_now_31 : decode cX7_now 31 = .ok (.aload_n 0, 1) := by decide +kernel
theorem dX7_now_32 : decode cX7_now 32 = .ok (.invokevirtual 175, 3) := by decide +kernel
theorem dX7_now_35 : decode cX7_now 35 = .ok (.ireturn, 1) := by decide +kernel
theorem dX7_anew_0 : decode cX7_anew 0 = .ok (.aload_n 0, 1) := by decide +kernel
theorem dX7_anew_1 : decode cX7_anew 1 = .ok (.iconst 0, 1) := by decide +kernel
theorem dX7_anew_2 : decode cX7_anew 2 = .ok (.putfield 47, 3) := by decide +kernel
theorem dX7_anew_5 : decode cX7_anew 5 = .ok (.aload_n 0, 1) := by decide +kernel
theorem dX7_anew_6 : decode cX7_anew 6 = .ok (.invokevirtual 175, 3) := by decide +kernel
theorem dX7_anew_9 : decode cX7_anew 9 = .ok (.istore_n 1, 1) := by decide +kernel
theorem dX7_anew_10 : decode cX7_anew 10 = .ok (.aload_n 0, 1) := by decide +kernel
theorem dX7_anew_11 : decode cX7_anew 11 = .ok (.invokevirtual 134, 3) := by decide +kernel
theorem dX7_anew_14 : decode cX7_anew 14 = .ok (.iload_n 1, 1) := by decide +kernel
theorem dX7_anew_15 : decode cX7_anew 15 = .ok (.ireturn, 1) := by decide +kernel
theorem dX7_steps_0 : decode cX7_steps 0 = .ok (.aload_n 0, 1) := by decide +kernel
theorem dX7_steps_1 : decode cX7_steps 1 = .ok (.iconst 0, 1) := by decide +kernel
theorem dX7_steps_2 : decode cX7_steps 2 = .ok (.putfield 47, 3) := by decide +kernel
theorem dX7_steps_5 : decode cX7_steps 5 = .ok (.aload_n 0, 1) := by decide +kernel
theorem dX7_steps_6 : decode cX7_steps 6 = .ok (.iload_n 1, 1) := by decide +kernel
theorem dX7_steps_7 : decode cX7_steps 7 = .ok (.invokevirtual 137, 3) := by decide +kernel
theorem dX7_steps_10 : decode cX7_steps 10 = .ok (.ifCond .eq 20, 3) := by decide +kernel
theorem dX7_steps_13 : decode cX7_steps 13 = .ok (.aload_n 0, 1) := by decide +kernel
theorem dX7_steps_14 : decode cX7_steps 14 = .ok (.iload_n 2, 1) := by decide +kernel
theorem dX7_steps_15 : decode cX7_steps 15 = .ok (.invokevirtual 137, 3) := by decide +kernel
theorem dX7_steps_18 : decode cX7_steps 18 = .ok (.ifCond .eq 12, 3) := by decide +kernel
theorem dX7_steps_21 : decode cX7_steps 21 = .ok (.aload_n 0, 1) := by decide +kernel
theorem dX7_steps_22 : decode cX7_steps 22 = .ok (.iload_n 1, 1) := by decide +kernel
theorem dX7_steps_23 : decode cX7_steps 23 = .ok (.iload_n 2, 1) := by decide +kernel
theorem dX7_steps_24 : decode cX7_steps 24 = .ok (.invokevirtual 159, 3) := by decide +kernel
theorem dX7_steps_27 : decode cX7_steps 27 = .ok (.goto 4, 3) := by decide +kernel
theorem dX7_steps_30 : decode cX7_steps 30 = .ok (.iconst (-1), 1) := by decide +kernel
theorem dX7_steps_31 : decode cX7_steps 31 = .ok (.ireturn, 1) := by decide +kernel
theorem dX7_way_0 : decode cX7_way 0 = .ok (.aload_n 0, 1) := by decide +kernel
theorem dX7_way_1 : decode cX7_way 1 = .ok (.iconst 0, 1) := by decide +kernel
theorem dX7_way_2 : decode cX7_way 2 = .ok (.putfield 47, 3) := by decide +kernel
theorem dX7_way_5 : decode cX7_way 5 = .ok (.aload_n 0, 1) := by decide +kernel
theorem dX7_way_6 : decode cX7_way 6 = .ok (.iload_n 1, 1) := by decide +kernel
theorem dX7_way_7 : decode cX7_way 7 = .ok (.invokevirtual 137, 3) := by decide +kernel
theorem dX7_way_10 : decode cX7_way 10 = .ok (.ifCond .eq 15, 3) := by decide +kernel
theorem dX7_way_13 : decode cX7_way 13 = .ok (.aload_n 0, 1) := by decide +kernel
theorem dX7_way_14 : decode cX7_way 14 = .ok (.iload_n 2, 1) := by decide +kernel
theorem dX7_way_15 : decode cX7_way 15 = .ok (.invokevirtual 137, 3) := by decide +kernel
theorem dX7_way_18 : decode cX7_way 18 = .ok (.ifCond .eq 7, 3) := by decide +kernel
theorem dX7_way_21 : decode cX7_way 21 = .ok (.iload_n 3, 1) := by decide +kernel
theorem dX7_way_22 : decode cX7_way 22 = .ok (.ifCond .ge 5, 3) := by decide +kernel
theorem dX7_way_25 : decode cX7_way 25 = .ok (.iconst (-1), 1) := by decide +kernel
theorem dX7_way_26 : decode cX7_way 26 = .ok (.ireturn, 1) := by decide +kernel
theorem dX7_way_27 : decode cX7_way 27 = .ok (.aload_n 0, 1) := by decide +kernel
theorem dX7_way_28 : decode cX7_way 28 = .ok (.iload_n 1, 1) := by decide +kernel
theorem dX7_way_29 : decode cX7_way 29 = .ok (.iload_n 2, 1) := by decide +kernel
theorem dX7_way_30 : decode cX7_way 30 = .ok (.invokevirtual 159, 3) := by decide +kernel
theorem dX7_way_33 : decode cX7_way 33 = .ok (.istore 4, 2) := by decide +kernel
theorem dX7_way_35 : decode cX7_way 35 = .ok (.iload 4, 2) := by decide +kernel
theorem dX7_way_37 : decode cX7_way 37 = .ok (.bipush (-9), 2) := by decide +kernel
theorem dX7_way_39 : decode cX7_way 39 = .ok (.if_icmp .eq 9, 3) := by decide +kernel
theorem dX7_way_42 : decode cX7_way 42 = .ok (.iload_n 3, 1) := by decide +kernel
theorem dX7_way_43 : decode cX7_way 43 = .ok (.iload 4, 2) := by decide +kernel
theorem dX7_way_45 : decode cX7_way 45 = .ok (.if_icmp .le 18, 3) := by decide +kernel
theorem dX7_way_48 : decode cX7_way 48 = .ok (.iload 4, 2) := by decide +kernel
theorem dX7_way_50 : decode cX7_way 50 = .ok (.bipush (-9), 2) := by decide +kernel
theorem dX7_way_52 : decode cX7_way 52 = .ok (.if_icmp .ne 8, 3) := by decide +kernel
theorem dX7_way_55 : decode cX7_way 55 = .ok (.bipush (-9), 2) := by decide +kernel
theorem dX7_way_57 : decode cX7_way 57 = .ok (.goto 5, 3) := by decide +kernel
theorem dX7_way_60 : decode cX7_way 60 = .ok (.bipush (-5), 2) := by decide +kernel
theorem dX7_way_62 : decode cX7_way 62 = .ok (.ireturn, 1) := by decide +kernel
theorem dX7_way_63 : decode cX7_way 63 = .ok (.iload_n 1, 1) := by decide +kernel
theorem dX7_way_64 : decode cX7_way 64 = .ok (.istore 5, 2) := by decide +kernel
theorem dX7_way_66 : decode cX7_way 66 = .ok (.iconst 0, 1) := by decide +kernel
theorem dX7_way_67 : decode cX7_way 67 = .ok (.istore 6, 2) := by decide +kernel
theorem dX7_way_69 : decode cX7_way 69 = .ok (.iload 6, 2) := by decide +kernel
theorem dX7_way_71 : decode cX7_way 71 = .ok (.iload_n 3, 1) := by decide +kernel
theorem dX7_way_72 : decode cX7_way 72 = .ok (.if_icmp .ge 17, 3) := by decide +kernel
theorem dX7_way_75 : decode cX7_way 75 = .ok (.aload_n 0, 1) := by decide +kernel
theorem dX7_way_76 : decode cX7_way 76 = .ok (.iload 5, 2) := by decide +kernel
theorem dX7_way_78 : decode cX7_way 78 = .ok (.invokevirtual 162, 3) := by decide +kernel
theorem dX7_way_81 : decode cX7_way 81 = .ok (.istore 5, 2) := by decide +kernel
theorem dX7_way_83 : decode cX7_way 83 = .ok (.iinc 6 1, 3) := by decide +kernel
theorem dX7_way_86 : decode cX7_way 86 = .ok (.goto (-17), 3) := by decide +kernel
theorem dX7_way_89 : decode cX7_way 89 = .ok (.iload 5, 2) := by decide +kernel
theorem dX7_way_91 : decode cX7_way 91 = .ok (.ireturn, 1) := by decide +kernel
theorem dX7_costs_0 : decode cX7_costs 0 = .ok (.aload_n 0, 1) := by decide +kernel
theorem dX7_costs_1 : decode cX7_costs 1 = .ok (.getfield 51, 3) := by decide +kernel
theorem dX7_costs_4 : decode cX7_costs 4 = .ok (.aload_n 0, 1) := by decide +kernel
theorem dX7_costs_5 : decode cX7_costs 5 = .ok (.getfield 54, 3) := by decide +kernel
theorem dX7_costs_8 : decode cX7_costs 8 = .ok (.imul, 1) := by decide +kernel
theorem dX7_costs_9 : decode cX7_costs 9 = .ok (.istore_n 3, 1) := by decide +kernel
theorem dX7_costs_10 : decode cX7_costs 10 = .ok (.iconst 0, 1) := by decide +kernel
theorem dX7_costs_11 : decode cX7_costs 11 = .ok (.istore 4, 2) := by decide +kernel
theorem dX7_costs_13 : decode cX7_costs 13 = .ok (.iload 4, 2) := by decide +kernel
theorem dX7_costs_15 : decode cX7_costs 15 = .ok (.iload_n 3, 1) := by decide +kernel
theorem dX7_costs_16 : decode cX7_costs 16 = .ok (.if_icmp .ge 43, 3) := by decide +kernel
theorem dX7_costs_19 : decode cX7_costs 19 = .ok (.aload_n 0, 1) := by decide +kernel
theorem dX7_costs_20 : decode cX7_costs 20 = .ok (.getfield 35, 3) := by decide +kernel
theorem dX7_costs_23 : decode cX7_costs 23 = .ok (.iload 4, 2) := by decide +kernel
theorem dX7_costs_25 : decode cX7_costs 25 = .ok (.iload 4, 2) := by decide +kernel
theorem dX7_costs_27 : decode cX7_costs 27 = .ok (.iload_n 2, 1) := by decide +kernel
theorem dX7_costs_28 : decode cX7_costs 28 = .ok (.if_icmp .ne 22, 3) := by decide +kernel
theorem dX7_costs_31 : decode cX7_costs 31 = .ok (.aload_n 0, 1) := by decide +kernel
theorem dX7_costs_32 : decode cX7_costs 32 = .ok (.getfield 25, 3) := by decide +kernel
theorem dX7_costs_35 : decode cX7_costs 35 = .ok (.iload 4, 2) := by decide +kernel
theorem dX7_costs_37 : decode cX7_costs 37 = .ok (.iaload, 1) := by decide +kernel
theorem dX7_costs_38 : decode cX7_costs 38 = .ok (.iconst 1, 1) := by decide +kernel
theorem dX7_costs_39 : decode cX7_costs 39 = .ok (.if_icmp .ne 7, 3) := by decide +kernel
theorem dX7_costs_42 : decode cX7_costs 42 = .ok (.iconst 1, 1) := by decide +kernel
theorem dX7_costs_43 : decode cX7_costs 43 = .ok (.goto 9, 3) := by decide +kernel
theorem dX7_costs_46 : decode cX7_costs 46 = .ok (.iconst 0, 1) := by decide +kernel
theorem dX7_costs_47 : decode cX7_costs 47 = .ok (.goto 5, 3) := by decide +kernel
theorem dX7_costs_50 : decode cX7_costs 50 = .ok (.bipush 99, 2) := by decide +kernel
theorem dX7_costs_52 : decode cX7_costs 52 = .ok (.iastore, 1) := by decide +kernel
theorem dX7_costs_53 : decode cX7_costs 53 = .ok (.iinc 4 1, 3) := by decide +kernel
theorem dX7_costs_56 : decode cX7_costs 56 = .ok (.goto (-43), 3) := by decide +kernel
theorem dX7_costs_59 : decode cX7_costs 59 = .ok (.iconst 1, 1) := by decide +kernel
theorem dX7_costs_60 : decode cX7_costs 60 = .ok (.istore 4, 2) := by decide +kernel
theorem dX7_costs_62 : decode cX7_costs 62 = .ok (.iload 4, 2) := by decide +kernel
theorem dX7_costs_64 : decode cX7_costs 64 = .ok (.ifCond .eq 144, 3) := by decide +kernel
theorem dX7_costs_67 : decode cX7_costs 67 = .ok (.iconst 0, 1) := by decide +kernel
theorem dX7_costs_68 : decode cX7_costs 68 = .ok (.istore 4, 2) := by decide +kernel
theorem dX7_costs_70 : decode cX7_costs 70 = .ok (.iconst 0, 1) := by decide +kernel
theorem dX7_costs_71 : decode cX7_costs 71 = .ok (.istore 5, 2) := by decide +kernel
theorem dX7_costs_73 : decode cX7_costs 73 = .ok (.iload 5, 2) := by decide +kernel
theorem dX7_costs_75 : decode cX7_costs 75 = .ok (.iload_n 3, 1) := by decide +kernel
theorem dX7_costs_76 : decode cX7_costs 76 = .ok (.if_icmp .ge 129, 3) := by decide +kernel
theorem dX7_costs_79 : decode cX7_costs 79 = .ok (.aload_n 0, 1) := by decide +kernel
theorem dX7_costs_80 : decode cX7_costs 80 = .ok (.getfield 25, 3) := by decide +kernel
theorem dX7_costs_83 : decode cX7_costs 83 = .ok (.iload 5, 2) := by decide +kernel
theorem dX7_costs_85 : decode cX7_costs 85 = .ok (.iaload, 1) := by decide +kernel
theorem dX7_costs_86 : decode cX7_costs 86 = .ok (.iconst 1, 1) := by decide +kernel
theorem dX7_costs_87 : decode cX7_costs 87 = .ok (.if_icmp .ne 7, 3) := by decide +kernel
theorem dX7_costs_90 : decode cX7_costs 90 = .ok (.iconst 1, 1) := by decide +kernel
theorem dX7_costs_91 : decode cX7_costs 91 = .ok (.goto 4, 3) := by decide +kernel
theorem dX7_costs_94 : decode cX7_costs 94 = .ok (.iconst 0, 1) := by decide +kernel
theorem dX7_costs_95 : decode cX7_costs 95 = .ok (.istore 6, 2) := by decide +kernel
theorem dX7_costs_97 : decode cX7_costs 97 = .ok (.iconst 0, 1) := by decide +kernel
theorem dX7_costs_98 : decode cX7_costs 98 = .ok (.istore 7, 2) := by decide +kernel
theorem dX7_costs_100 : decode cX7_costs 100 = .ok (.iload 7, 2) := by decide +kernel
theorem dX7_costs_102 : decode cX7_costs 102 = .ok (.iload_n 3, 1) := by decide +kernel
theorem dX7_costs_103 : decode cX7_costs 103 = .ok (.if_icmp .ge 96, 3) := by decide +kernel
theorem dX7_costs_106 : decode cX7_costs 106 = .ok (.aload_n 0, 1) := by decide +kernel
theorem dX7_costs_107 : decode cX7_costs 107 = .ok (.iload 5, 2) := by decide +kernel
theorem dX7_costs_109 : decode cX7_costs 109 = .ok (.iload 7, 2) := by decide +kernel
theorem dX7_costs_111 : decode cX7_costs 111 = .ok (.invokevirtual 151, 3) := by decide +kernel
theorem dX7_costs_114 : decode cX7_costs 114 = .ok (.ifCond .eq 27, 3) := by decide +kernel
theorem dX7_costs_117 : decode cX7_costs 117 = .ok (.aload_n 0, 1) := by decide +kernel
theorem dX7_costs_118 : decode cX7_costs 118 = .ok (.getfield 35, 3) := by decide +kernel
theorem dX7_costs_121 : decode cX7_costs 121 = .ok (.iload 7, 2) := by decide +kernel
theorem dX7_costs_123 : decode cX7_costs 123 = .ok (.iaload, 1) := by decide +kernel
theorem dX7_costs_124 : decode cX7_costs 124 = .ok (.iload 6, 2) := by decide +kernel
theorem dX7_costs_126 : decode cX7_costs 126 = .ok (.iadd, 1) := by decide +kernel
theorem dX7_costs_127 : decode cX7_costs 127 = .ok (.aload_n 0, 1) := by decide +kernel
theorem dX7_costs_128 : decode cX7_costs 128 = .ok (.getfield 35, 3) := by decide +kernel
theorem dX7_costs_131 : decode cX7_costs 131 = .ok (.iload 5, 2) := by decide +kernel
theorem dX7_costs_133 : decode cX7_costs 133 = .ok (.iaload, 1) := by decide +kernel
theorem dX7_costs_134 : decode cX7_costs 134 = .ok (.if_icmp .ge 7, 3) := by decide +kernel
theorem dX7_costs_137 : decode cX7_costs 137 = .ok (.iconst 1, 1) := by decide +kernel
theorem dX7_costs_138 : decode cX7_costs 138 = .ok (.goto 4, 3) := by decide +kernel
theorem dX7_costs_141 : decode cX7_costs 141 = .ok (.iconst 0, 1) := by decide +kernel
theorem dX7_costs_142 : decode cX7_costs 142 = .ok (.istore 8, 2) := by decide +kernel
theorem dX7_costs_144 : decode cX7_costs 144 = .ok (.aload_n 0, 1) := by decide +kernel
theorem dX7_costs_145 : decode cX7_costs 145 = .ok (.getfield 35, 3) := by decide +kernel
theorem dX7_costs_148 : decode cX7_costs 148 = .ok (.iload 5, 2) := by decide +kernel
theorem dX7_costs_150 : decode cX7_costs 150 = .ok (.iload 8, 2) := by decide +kernel
theorem dX7_costs_152 : decode cX7_costs 152 = .ok (.ifCond .eq 16, 3) := by decide +kernel
theorem dX7_costs_155 : decode cX7_costs 155 = .ok (.aload_n 0, 1) := by decide +kernel
theorem dX7_costs_156 : decode cX7_costs 156 = .ok (.getfield 35, 3) := by decide +kernel
theorem dX7_costs_159 : decode cX7_costs 159 = .ok (.iload 7, 2) := by decide +kernel
theorem dX7_costs_161 : decode cX7_costs 161 = .ok (.iaload, 1) := by decide +kernel
theorem dX7_costs_162 : decode cX7_costs 162 = .ok (.iload 6, 2) := by decide +kernel
theorem dX7_costs_164 : decode cX7_costs 164 = .ok (.iadd, 1) := by decide +kernel
theorem dX7_costs_165 : decode cX7_costs 165 = .ok (.goto 10, 3) := by decide +kernel
theorem dX7_costs_168 : decode cX7_costs 168 = .ok (.aload_n 0, 1) := by decide +kernel
theorem dX7_costs_169 : decode cX7_costs 169 = .ok (.getfield 35, 3) := by decide +kernel
theorem dX7_costs_172 : decode cX7_costs 172 = .ok (.iload 5, 2) := by decide +kernel
theorem dX7_costs_174 : decode cX7_costs 174 = .ok (.iaload, 1) := by decide +kernel
theorem dX7_costs_175 : decode cX7_costs 175 = .ok (.iastore, 1) := by decide +kernel
theorem dX7_costs_176 : decode cX7_costs 176 = .ok (.iload 4, 2) := by decide +kernel
theorem dX7_costs_178 : decode cX7_costs 178 = .ok (.ifCond .ne 8, 3) := by decide +kernel
theorem dX7_costs_181 : decode cX7_costs 181 = .ok (.iload 8, 2) := by decide +kernel
theorem dX7_costs_183 : decode cX7_costs 183 = .ok (.ifCond .eq 7, 3) := by decide +kernel
theorem dX7_costs_186 : decode cX7_costs 186 = .ok (.iconst 1, 1) := by decide +kernel
theorem dX7_costs_187 : decode cX7_costs 187 = .ok (.goto 4, 3) := by decide +kernel
theorem dX7_costs_190 : decode cX7_costs 190 = .ok (.iconst 0, 1) := by decide +kernel
theorem dX7_costs_191 : decode cX7_costs 191 = .ok (.istore 4, 2) := by decide +kernel
theorem dX7_costs_193 : decode cX7_costs 193 = .ok (.iinc 7 1, 3) := by decide +kernel
theorem dX7_costs_196 : decode cX7_costs 196 = .ok (.goto (-96), 3) := by decide +kernel
theorem dX7_costs_199 : decode cX7_costs 199 = .ok (.iinc 5 1, 3) := by decide +kernel
theorem dX7_costs_202 : decode cX7_costs 202 = .ok (.goto (-129), 3) := by decide +kernel
theorem dX7_costs_205 : decode cX7_costs 205 = .ok (.goto (-143), 3) := by decide +kernel
theorem dX7_costs_208 : decode cX7_costs 208 = .ok (.aload_n 0, 1) := by decide +kernel
theorem dX7_costs_209 : decode cX7_costs 209 = .ok (.getfield 35, 3) := by decide +kernel
theorem dX7_costs_212 : decode cX7_costs 212 = .ok (.iload_n 1, 1) := by decide +kernel
theorem dX7_costs_213 : decode cX7_costs 213 = .ok (.iaload, 1) := by decide +kernel
theorem dX7_costs_214 : decode cX7_costs 214 = .ok (.ireturn, 1) := by decide +kernel
theorem dX7_stones_0 : decode cX7_stones 0 = .ok (.aload_n 0, 1) := by decide +kernel
theorem dX7_stones_1 : decode cX7_stones 1 = .ok (.iconst 0, 1) := by decide +kernel
theorem dX7_stones_2 : decode cX7_stones 2 = .ok (.putfield 47, 3) := by decide +kernel
theorem dX7_stones_5 : decode cX7_stones 5 = .ok (.aload_n 0, 1) := by decide +kernel
theorem dX7_stones_6 : decode cX7_stones 6 = .ok (.iload_n 1, 1) := by decide +kernel
theorem dX7_stones_7 : decode cX7_stones 7 = .ok (.invokevirtual 137, 3) := by decide +kernel
theorem dX7_stones_10 : decode cX7_stones 10 = .ok (.ifCond .eq 20, 3) := by decide +kernel
theorem dX7_stones_13 : decode cX7_stones 13 = .ok (.aload_n 0, 1) := by decide +kernel
theorem dX7_stones_14 : decode cX7_stones 14 = .ok (.iload_n 2, 1) := by decide +kernel
theorem dX7_stones_15 : decode cX7_stones 15 = .ok (.invokevirtual 137, 3) := by decide +kernel
theorem dX7_stones_18 : decode cX7_stones 18 = .ok (.ifCond .eq 12, 3) := by decide +kernel
theorem dX7_stones_21 : decode cX7_stones 21 = .ok (.aload_n 0, 1) := by decide +kernel
theorem dX7_stones_22 : decode cX7_stones 22 = .ok (.iload_n 1, 1) := by decide +kernel
theorem dX7_stones_23 : decode cX7_stones 23 = .ok (.iload_n 2, 1) := by decide +kernel
theorem dX7_stones_24 : decode cX7_stones 24 = .ok (.invokevirtual 178, 3) := by decide +kernel
theorem dX7_stones_27 : decode cX7_stones 27 = .ok (.goto 4, 3) := by decide +kernel
theorem dX7_stones_30 : decode cX7_stones 30 = .ok (.iconst (-1), 1) := by decide +kernel
theorem dX7_stones_31 : decode cX7_stones 31 = .ok (.ireturn, 1) := by decide +kernel
theorem dX7_bearing_0 : decode cX7_bearing 0 = .ok (.iconst 0, 1) := by decide +kernel
theorem dX7_bearing_1 : decode cX7_bearing 1 = .ok (.istore_n 1, 1) := by decide +kernel
theorem dX7_bearing_2 : decode cX7_bearing 2 = .ok (.iconst 0, 1) := by decide +kernel
theorem dX7_bearing_3 : decode cX7_bearing 3 = .ok (.istore_n 2, 1) := by decide +kernel
theorem dX7_bearing_4 : decode cX7_bearing 4 = .ok (.iload_n 2, 1) := by decide +kernel
theorem dX7_bearing_5 : decode cX7_bearing 5 = .ok (.aload_n 0, 1) := by decide +kernel
theorem dX7_bearing_6 : decode cX7_bearing 6 = .ok (.getfield 51, 3) := by decide +kernel
theorem dX7_bearing_9 : decode cX7_bearing 9 = .ok (.aload_n 0, 1) := by decide +kernel
theorem dX7_bearing_10 : decode cX7_bearing 10 = .ok (.getfield 54, 3) := by decide +kernel
theorem dX7_bearing_13 : decode cX7_bearing 13 = .ok (.imul, 1) := by decide +kernel
theorem dX7_bearing_14 : decode cX7_bearing 14 = .ok (.if_icmp .ge 29, 3) := by decide +kernel
theorem dX7_bearing_17 : decode cX7_bearing 17 = .ok (.iload_n 1, 1) := by decide +kernel
theorem dX7_bearing_18 : decode cX7_bearing 18 = .ok (.aload_n 0, 1) := by decide +kernel
theorem dX7_bearing_19 : decode cX7_bearing 19 = .ok (.getfield 25, 3) := by decide +kernel
theorem dX7_bearing_22 : decode cX7_bearing 22 = .ok (.iload_n 2, 1) := by decide +kernel
theorem dX7_bearing_23 : decode cX7_bearing 23 = .ok (.iaload, 1) := by decide +kernel
theorem dX7_bearing_24 : decode cX7_bearing 24 = .ok (.iconst 1, 1) := by decide +kernel
theorem dX7_bearing_25 : decode cX7_bearing 25 = .ok (.if_icmp .eq 9, 3) := by decide +kernel
theorem dX7_bearing_28 : decode cX7_bearing 28 = .ok (.iconst 1, 1) := by decide +kernel
theorem dX7_bearing_29 : decode cX7_bearing 29 = .ok (.iload_n 2, 1) := by decide +kernel
theorem dX7_bearing_30 : decode cX7_bearing 30 = .ok (.ishl, 1) := by decide +kernel
theorem dX7_bearing_31 : decode cX7_bearing 31 = .ok (.goto 4, 3) := by decide +kernel
theorem dX7_bearing_34 : decode cX7_bearing 34 = .ok (.iconst 0, 1) := by decide +kernel
theorem dX7_bearing_35 : decode cX7_bearing 35 = .ok (.ior, 1) := by decide +kernel
theorem dX7_bearing_36 : decode cX7_bearing 36 = .ok (.istore_n 1, 1) := by decide +kernel
theorem dX7_bearing_37 : decode cX7_bearing 37 = .ok (.iinc 2 1, 3) := by decide +kernel
theorem dX7_bearing_40 : decode cX7_bearing 40 = .ok (.goto (-36), 3) := by decide +kernel
theorem dX7_bearing_43 : decode cX7_bearing 43 = .ok (.iload_n 1, 1) := by decide +kernel
theorem dX7_bearing_44 : decode cX7_bearing 44 = .ok (.ireturn, 1) := by decide +kernel
theorem dX7_listsBogs_0 : decode cX7_listsBogs 0 = .ok (.iconst 0, 1) := by decide +kernel
theorem dX7_listsBogs_1 : decode cX7_listsBogs 1 = .ok (.istore_n 1, 1) := by decide +kernel
theorem dX7_listsBogs_2 : decode cX7_listsBogs 2 = .ok (.iconst 0, 1) := by decide +kernel
theorem dX7_listsBogs_3 : decode cX7_listsBogs 3 = .ok (.istore_n 2, 1) := by decide +kernel
theorem dX7_listsBogs_4 : decode cX7_listsBogs 4 = .ok (.iload_n 2, 1) := by decide +kernel
theorem dX7_listsBogs_5 : decode cX7_listsBogs 5 = .ok (.aload_n 0, 1) := by decide +kernel
theorem dX7_listsBogs_6 : decode cX7_listsBogs 6 = .ok (.getfield 51, 3) := by decide +kernel
theorem dX7_listsBogs_9 : decode cX7_listsBogs 9 = .ok (.aload_n 0, 1) := by decide +kernel
theorem dX7_listsBogs_10 : decode cX7_listsBogs 10 = .ok (.getfield 54, 3) := by decide +kernel
theorem dX7_listsBogs_13 : decode cX7_listsBogs 13 = .ok (.imul, 1) := by decide +kernel
theorem dX7_listsBogs_14 : decode cX7_listsBogs 14 = .ok (.if_icmp .ge 29, 3) := by decide +kernel
theorem dX7_listsBogs_17 : decode cX7_listsBogs 17 = .ok (.aload_n 0, 1) := by decide +kernel
theorem dX7_listsBogs_18 : decode cX7_listsBogs 18 = .ok (.getfield 25, 3) := by decide +kernel
theorem dX7_listsBogs_21 : decode cX7_listsBogs 21 = .ok (.iload_n 2, 1) := by decide +kernel
theorem dX7_listsBogs_22 : decode cX7_listsBogs 22 = .ok (.iaload, 1) := by decide +kernel
theorem dX7_listsBogs_23 : decode cX7_listsBogs 23 = .ok (.iconst 1, 1) := by decide +kernel
theorem dX7_listsBogs_24 : decode cX7_listsBogs 24 = .ok (.if_icmp .ne 13, 3) := by decide +kernel
theorem dX7_listsBogs_27 : decode cX7_listsBogs 27 = .ok (.aload_n 0, 1) := by decide +kernel
theorem dX7_listsBogs_28 : decode cX7_listsBogs 28 = .ok (.getfield 38, 3) := by decide +kernel
theorem dX7_listsBogs_31 : decode cX7_listsBogs 31 = .ok (.iload_n 1, 1) := by decide +kernel
theorem dX7_listsBogs_32 : decode cX7_listsBogs 32 = .ok (.iload_n 2, 1) := by decide +kernel
theorem dX7_listsBogs_33 : decode cX7_listsBogs 33 = .ok (.iastore, 1) := by decide +kernel
theorem dX7_listsBogs_34 : decode cX7_listsBogs 34 = .ok (.iinc 1 1, 3) := by decide +kernel
theorem dX7_listsBogs_37 : decode cX7_listsBogs 37 = .ok (.iinc 2 1, 3) := by decide +kernel
theorem dX7_listsBogs_40 : decode cX7_listsBogs 40 = .ok (.goto (-36), 3) := by decide +kernel
theorem dX7_listsBogs_43 : decode cX7_listsBogs 43 = .ok (.iload_n 1, 1) := by decide +kernel
theorem dX7_listsBogs_44 : decode cX7_listsBogs 44 = .ok (.ireturn, 1) := by decide +kernel
theorem dX7_chosen_0 : decode cX7_chosen 0 = .ok (.iconst 0, 1) := by decide +kernel
theorem dX7_chosen_1 : decode cX7_chosen 1 = .ok (.istore_n 3, 1) := by decide +kernel
theorem dX7_chosen_2 : decode cX7_chosen 2 = .ok (.iconst 0, 1) := by decide +kernel
theorem dX7_chosen_3 : decode cX7_chosen 3 = .ok (.istore 4, 2) := by decide +kernel
theorem dX7_chosen_5 : decode cX7_chosen 5 = .ok (.iload 4, 2) := by decide +kernel
theorem dX7_chosen_7 : decode cX7_chosen 7 = .ok (.iload_n 2, 1) := by decide +kernel
theorem dX7_chosen_8 : decode cX7_chosen 8 = .ok (.if_icmp .ge 26, 3) := by decide +kernel
theorem dX7_chosen_11 : decode cX7_chosen 11 = .ok (.iload_n 3, 1) := by decide +kernel
theorem dX7_chosen_12 : decode cX7_chosen 12 = .ok (.iload_n 1, 1) := by decide +kernel
theorem dX7_chosen_13 : decode cX7_chosen 13 = .ok (.iload 4, 2) := by decide +kernel
theorem dX7_chosen_15 : decode cX7_chosen 15 = .ok (.ishr, 1) := by decide +kernel
theorem dX7_chosen_16 : decode cX7_chosen 16 = .ok (.iconst 1, 1) := by decide +kernel
theorem dX7_chosen_17 : decode cX7_chosen 17 = .ok (.iand, 1) := by decide +kernel
theorem dX7_chosen_18 : decode cX7_chosen 18 = .ok (.aload_n 0, 1) := by decide +kernel
theorem dX7_chosen_19 : decode cX7_chosen 19 = .ok (.getfield 38, 3) := by decide +kernel
theorem dX7_chosen_22 : decode cX7_chosen 22 = .ok (.iload 4, 2) := by decide +kernel
theorem dX7_chosen_24 : decode cX7_chosen 24 = .ok (.iaload, 1) := by decide +kernel
theorem dX7_chosen_25 : decode cX7_chosen 25 = .ok (.ishl, 1) := by decide +kernel
theorem dX7_chosen_26 : decode cX7_chosen 26 = .ok (.ior, 1) := by decide +kernel
theorem dX7_chosen_27 : decode cX7_chosen 27 = .ok (.istore_n 3, 1) := by decide +kernel
theorem dX7_chosen_28 : decode cX7_chosen 28 = .ok (.iinc 4 1, 3) := by decide +kernel
theorem dX7_chosen_31 : decode cX7_chosen 31 = .ok (.goto (-26), 3) := by decide +kernel
theorem dX7_chosen_34 : decode cX7_chosen 34 = .ok (.iload_n 3, 1) := by decide +kernel
theorem dX7_chosen_35 : decode cX7_chosen 35 = .ok (.ireturn, 1) := by decide +kernel
theorem dX7_nears_0 : decode cX7_nears 0 = .ok (.iconst 0, 1) := by decide +kernel
theorem dX7_nears_1 : decode cX7_nears 1 = .ok (.istore_n 1, 1) := by decide +kernel
theorem dX7_nears_2 : decode cX7_nears 2 = .ok (.iload_n 1, 1) := by decide +kernel
theorem dX7_nears_3 : decode cX7_nears 3 = .ok (.aload_n 0, 1) := by decide +kernel
theorem dX7_nears_4 : decode cX7_nears 4 = .ok (.getfield 51, 3) := by decide +kernel
theorem dX7_nears_7 : decode cX7_nears 7 = .ok (.aload_n 0, 1) := by decide +kernel
theorem dX7_nears_8 : decode cX7_nears 8 = .ok (.getfield 54, 3) := by decide +kernel
theorem dX7_nears_11 : decode cX7_nears 11 = .ok (.imul, 1) := by decide +kernel
theorem dX7_nears_12 : decode cX7_nears 12 = .ok (.if_icmp .ge 62, 3) := by decide +kernel
theorem dX7_nears_15 : decode cX7_nears 15 = .ok (.aload_n 0, 1) := by decide +kernel
theorem dX7_nears_16 : decode cX7_nears 16 = .ok (.getfield 41, 3) := by decide +kernel
theorem dX7_nears_19 : decode cX7_nears 19 = .ok (.iload_n 1, 1) := by decide +kernel
theorem dX7_nears_20 : decode cX7_nears 20 = .ok (.iconst 0, 1) := by decide +kernel
theorem dX7_nears_21 : decode cX7_nears 21 = .ok (.iastore, 1) := by decide +kernel
theorem dX7_nears_22 : decode cX7_nears 22 = .ok (.iconst 0, 1) := by decide +kernel
theorem dX7_nears_23 : decode cX7_nears 23 = .ok (.istore_n 2, 1) := by decide +kernel
theorem dX7_nears_24 : decode cX7_nears 24 = .ok (.iload_n 2, 1) := by decide +kernel
theorem dX7_nears_25 : decode cX7_nears 25 = .ok (.aload_n 0, 1) := by decide +kernel
theorem dX7_nears_26 : decode cX7_nears 26 = .ok (.getfield 51, 3) := by decide +kernel
theorem dX7_nears_29 : decode cX7_nears 29 = .ok (.aload_n 0, 1) := by decide +kernel
theorem dX7_nears_30 : decode cX7_nears 30 = .ok (.getfield 54, 3) := by decide +kernel
theorem dX7_nears_33 : decode cX7_nears 33 = .ok (.imul, 1) := by decide +kernel
theorem dX7_nears_34 : decode cX7_nears 34 = .ok (.if_icmp .ge 34, 3) := by decide +kernel
theorem dX7_nears_37 : decode cX7_nears 37 = .ok (.aload_n 0, 1) := by decide +kernel
theorem dX7_nears_38 : decode cX7_nears 38 = .ok (.getfield 41, 3) := by decide +kernel
theorem dX7_nears_41 : decode cX7_nears 41 = .ok (.iload_n 1, 1) := by decide +kernel
theorem dX7_nears_42 : decode cX7_nears 42 = .ok (.dup2, 1) := by decide +kernel
theorem dX7_nears_43 : decode cX7_nears 43 = .ok (.iaload, 1) := by decide +kernel
theorem dX7_nears_44 : decode cX7_nears 44 = .ok (.aload_n 0, 1) := by decide +kernel
theorem dX7_nears_45 : decode cX7_nears 45 = .ok (.iload_n 1, 1) := by decide +kernel
theorem dX7_nears_46 : decode cX7_nears 46 = .ok (.iload_n 2, 1) := by decide +kernel
theorem dX7_nears_47 : decode cX7_nears 47 = .ok (.invokevirtual 151, 3) := by decide +kernel
theorem dX7_nears_50 : decode cX7_nears 50 = .ok (.ifCond .eq 9, 3) := by decide +kernel
theorem dX7_nears_53 : decode cX7_nears 53 = .ok (.iconst 1, 1) := by decide +kernel
theorem dX7_nears_54 : decode cX7_nears 54 = .ok (.iload_n 2, 1) := by decide +kernel
theorem dX7_nears_55 : decode cX7_nears 55 = .ok (.ishl, 1) := by decide +kernel
theorem dX7_nears_56 : decode cX7_nears 56 = .ok (.goto 4, 3) := by decide +kernel
theorem dX7_nears_59 : decode cX7_nears 59 = .ok (.iconst 0, 1) := by decide +kernel
theorem dX7_nears_60 : decode cX7_nears 60 = .ok (.ior, 1) := by decide +kernel
theorem dX7_nears_61 : decode cX7_nears 61 = .ok (.iastore, 1) := by decide +kernel
theorem dX7_nears_62 : decode cX7_nears 62 = .ok (.iinc 2 1, 3) := by decide +kernel
theorem dX7_nears_65 : decode cX7_nears 65 = .ok (.goto (-41), 3) := by decide +kernel
theorem dX7_nears_68 : decode cX7_nears 68 = .ok (.iinc 1 1, 3) := by decide +kernel
theorem dX7_nears_71 : decode cX7_nears 71 = .ok (.goto (-69), 3) := by decide +kernel
theorem dX7_nears_74 : decode cX7_nears 74 = .ok (.return_, 1) := by decide +kernel
theorem dX7_reached_0 : decode cX7_reached 0 = .ok (.iconst 1, 1) := by decide +kernel
theorem dX7_reached_1 : decode cX7_reached 1 = .ok (.iload_n 1, 1) := by decide +kernel
theorem dX7_reached_2 : decode cX7_reached 2 = .ok (.ishl, 1) := by decide +kernel
theorem dX7_reached_3 : decode cX7_reached 3 = .ok (.istore_n 3, 1) := by decide +kernel
theorem dX7_reached_4 : decode cX7_reached 4 = .ok (.iconst 1, 1) := by decide +kernel
theorem dX7_reached_5 : decode cX7_reached 5 = .ok (.istore 4, 2) := by decide +kernel
theorem dX7_reached_7 : decode cX7_reached 7 = .ok (.iload 4, 2) := by decide +kernel
theorem dX7_reached_9 : decode cX7_reached 9 = .ok (.ifCond .eq 76, 3) := by decide +kernel
theorem dX7_reached_12 : decode cX7_reached 12 = .ok (.iload_n 3, 1) := by decide +kernel
theorem dX7_reached_13 : decode cX7_reached 13 = .ok (.istore 5, 2) := by decide +kernel
theorem dX7_reached_15 : decode cX7_reached 15 = .ok (.iconst 0, 1) := by decide +kernel
theorem dX7_reached_16 : decode cX7_reached 16 = .ok (.istore 6, 2) := by decide +kernel
theorem dX7_reached_18 : decode cX7_reached 18 = .ok (.iload 6, 2) := by decide +kernel
theorem dX7_reached_20 : decode cX7_reached 20 = .ok (.aload_n 0, 1) := by decide +kernel
theorem dX7_reached_21 : decode cX7_reached 21 = .ok (.getfield 51, 3) := by decide +kernel
theorem dX7_reached_24 : decode cX7_reached 24 = .ok (.aload_n 0, 1) := by decide +kernel
theorem dX7_reached_25 : decode cX7_reached 25 = .ok (.getfield 54, 3) := by decide +kernel
theorem dX7_reached_28 : decode cX7_reached 28 = .ok (.imul, 1) := by decide +kernel
theorem dX7_reached_29 : decode cX7_reached 29 = .ok (.if_icmp .ge 37, 3) := by decide +kernel
theorem dX7_reached_32 : decode cX7_reached 32 = .ok (.iload 5, 2) := by decide +kernel
theorem dX7_reached_34 : decode cX7_reached 34 = .ok (.iload_n 3, 1) := by decide +kernel
theorem dX7_reached_35 : decode cX7_reached 35 = .ok (.iload 6, 2) := by decide +kernel
theorem dX7_reached_37 : decode cX7_reached 37 = .ok (.ishr, 1) := by decide +kernel
theorem dX7_reached_38 : decode cX7_reached 38 = .ok (.iconst 1, 1) := by decide +kernel
theorem dX7_reached_39 : decode cX7_reached 39 = .ok (.iand, 1) := by decide +kernel
theorem dX7_reached_40 : decode cX7_reached 40 = .ok (.iconst 1, 1) := by decide +kernel
theorem dX7_reached_41 : decode cX7_reached 41 = .ok (.if_icmp .ne 15, 3) := by decide +kernel
theorem dX7_reached_44 : decode cX7_reached 44 = .ok (.aload_n 0, 1) := by decide +kernel
theorem dX7_reached_45 : decode cX7_reached 45 = .ok (.getfield 41, 3) := by decide +kernel
theorem dX7_reached_48 : decode cX7_reached 48 = .ok (.iload 6, 2) := by decide +kernel
theorem dX7_reached_50 : decode cX7_reached 50 = .ok (.iaload, 1) := by decide +kernel
theorem dX7_reached_51 : decode cX7_reached 51 = .ok (.iload_n 2, 1) := by decide +kernel
theorem dX7_reached_52 : decode cX7_reached 52 = .ok (.iand, 1) := by decide +kernel
theorem dX7_reached_53 : decode cX7_reached 53 = .ok (.goto 4, 3) := by decide +kernel
theorem dX7_reached_56 : decode cX7_reached 56 = .ok (.iconst 0, 1) := by decide +kernel
theorem dX7_reached_57 : decode cX7_reached 57 = .ok (.ior, 1) := by decide +kernel
theorem dX7_reached_58 : decode cX7_reached 58 = .ok (.istore 5, 2) := by decide +kernel
theorem dX7_reached_60 : decode cX7_reached 60 = .ok (.iinc 6 1, 3) := by decide +kernel
theorem dX7_reached_63 : decode cX7_reached 63 = .ok (.goto (-45), 3) := by decide +kernel
theorem dX7_reached_66 : decode cX7_reached 66 = .ok (.iload 5, 2) := by decide +kernel
theorem dX7_reached_68 : decode cX7_reached 68 = .ok (.iload_n 3, 1) := by decide +kernel
theorem dX7_reached_69 : decode cX7_reached 69 = .ok (.if_icmp .eq 7, 3) := by decide +kernel
theorem dX7_reached_72 : decode cX7_reached 72 = .ok (.iconst 1, 1) := by decide +kernel
theorem dX7_reached_73 : decode cX7_reached 73 = .ok (.goto 4, 3) := by decide +kernel
theorem dX7_reached_76 : decode cX7_reached 76 = .ok (.iconst 0, 1) := by decide +kernel
theorem dX7_reached_77 : decode cX7_reached 77 = .ok (.istore 4, 2) := by decide +kernel
theorem dX7_reached_79 : decode cX7_reached 79 = .ok (.iload 5, 2) := by decide +kernel
theorem dX7_reached_81 : decode cX7_reached 81 = .ok (.istore_n 3, 1) := by decide +kernel
theorem dX7_reached_82 : decode cX7_reached 82 = .ok (.goto (-75), 3) := by decide +kernel
theorem dX7_reached_85 : decode cX7_reached 85 = .ok (.iload_n 3, 1) := by decide +kernel
theorem dX7_reached_86 : decode cX7_reached 86 = .ok (.ireturn, 1) := by decide +kernel
theorem dX7_ones_0 : decode cX7_ones 0 = .ok (.iconst 0, 1) := by decide +kernel
theorem dX7_ones_1 : decode cX7_ones 1 = .ok (.istore_n 1, 1) := by decide +kernel
theorem dX7_ones_2 : decode cX7_ones 2 = .ok (.iconst 0, 1) := by decide +kernel
theorem dX7_ones_3 : decode cX7_ones 3 = .ok (.istore_n 2, 1) := by decide +kernel
theorem dX7_ones_4 : decode cX7_ones 4 = .ok (.iload_n 2, 1) := by decide +kernel
theorem dX7_ones_5 : decode cX7_ones 5 = .ok (.bipush 24, 2) := by decide +kernel
theorem dX7_ones_7 : decode cX7_ones 7 = .ok (.if_icmp .ge 17, 3) := by decide +kernel
theorem dX7_ones_10 : decode cX7_ones 10 = .ok (.iload_n 1, 1) := by decide +kernel
theorem dX7_ones_11 : decode cX7_ones 11 = .ok (.iload_n 0, 1) := by decide +kernel
theorem dX7_ones_12 : decode cX7_ones 12 = .ok (.iload_n 2, 1) := by decide +kernel
theorem dX7_ones_13 : decode cX7_ones 13 = .ok (.ishr, 1) := by decide +kernel
theorem dX7_ones_14 : decode cX7_ones 14 = .ok (.iconst 1, 1) := by decide +kernel
theorem dX7_ones_15 : decode cX7_ones 15 = .ok (.iand, 1) := by decide +kernel
theorem dX7_ones_16 : decode cX7_ones 16 = .ok (.iadd, 1) := by decide +kernel
theorem dX7_ones_17 : decode cX7_ones 17 = .ok (.istore_n 1, 1) := by decide +kernel
theorem dX7_ones_18 : decode cX7_ones 18 = .ok (.iinc 2 1, 3) := by decide +kernel
theorem dX7_ones_21 : decode cX7_ones 21 = .ok (.goto (-17), 3) := by decide +kernel
theorem dX7_ones_24 : decode cX7_ones 24 = .ok (.iload_n 1, 1) := by decide +kernel
theorem dX7_ones_25 : decode cX7_ones 25 = .ok (.ireturn, 1) := by decide +kernel
theorem dX7_joins_0 : decode cX7_joins 0 = .ok (.iconst 0, 1) := by decide +kernel
theorem dX7_joins_1 : decode cX7_joins 1 = .ok (.istore_n 3, 1) := by decide +kernel
theorem dX7_joins_2 : decode cX7_joins 2 = .ok (.iload_n 1, 1) := by decide +kernel
theorem dX7_joins_3 : decode cX7_joins 3 = .ok (.iload_n 3, 1) := by decide +kernel
theorem dX7_joins_4 : decode cX7_joins 4 = .ok (.ishr, 1) := by decide +kernel
theorem dX7_joins_5 : decode cX7_joins 5 = .ok (.iconst 1, 1) := by decide +kernel
theorem dX7_joins_6 : decode cX7_joins 6 = .ok (.iand, 1) := by decide +kernel
theorem dX7_joins_7 : decode cX7_joins 7 = .ok (.ifCond .ne 9, 3) := by decide +kernel
theorem dX7_joins_10 : decode cX7_joins 10 = .ok (.iinc 3 1, 3) := by decide +kernel
theorem dX7_joins_13 : decode cX7_joins 13 = .ok (.goto (-11), 3) := by decide +kernel
theorem dX7_joins_16 : decode cX7_joins 16 = .ok (.bipush (-9), 2) := by decide +kernel
theorem dX7_joins_18 : decode cX7_joins 18 = .ok (.istore 4, 2) := by decide +kernel
theorem dX7_joins_20 : decode cX7_joins 20 = .ok (.iconst 0, 1) := by decide +kernel
theorem dX7_joins_21 : decode cX7_joins 21 = .ok (.istore 5, 2) := by decide +kernel
theorem dX7_joins_23 : decode cX7_joins 23 = .ok (.iload 5, 2) := by decide +kernel
theorem dX7_joins_25 : decode cX7_joins 25 = .ok (.iconst 1, 1) := by decide +kernel
theorem dX7_joins_26 : decode cX7_joins 26 = .ok (.iload_n 2, 1) := by decide +kernel
theorem dX7_joins_27 : decode cX7_joins 27 = .ok (.ishl, 1) := by decide +kernel
theorem dX7_joins_28 : decode cX7_joins 28 = .ok (.if_icmp .ge 84, 3) := by decide +kernel
theorem dX7_joins_31 : decode cX7_joins 31 = .ok (.aload_n 0, 1) := by decide +kernel
theorem dX7_joins_32 : decode cX7_joins 32 = .ok (.iload 5, 2) := by decide +kernel
theorem dX7_joins_34 : decode cX7_joins 34 = .ok (.iload_n 2, 1) := by decide +kernel
theorem dX7_joins_35 : decode cX7_joins 35 = .ok (.invokevirtual 181, 3) := by decide +kernel
theorem dX7_joins_38 : decode cX7_joins 38 = .ok (.istore 6, 2) := by decide +kernel
theorem dX7_joins_40 : decode cX7_joins 40 = .ok (.aload_n 0, 1) := by decide +kernel
theorem dX7_joins_41 : decode cX7_joins 41 = .ok (.invokevirtual 184, 3) := by decide +kernel
theorem dX7_joins_44 : decode cX7_joins 44 = .ok (.iload 6, 2) := by decide +kernel
theorem dX7_joins_46 : decode cX7_joins 46 = .ok (.ior, 1) := by decide +kernel
theorem dX7_joins_47 : decode cX7_joins 47 = .ok (.istore 7, 2) := by decide +kernel
theorem dX7_joins_49 : decode cX7_joins 49 = .ok (.iload 4, 2) := by decide +kernel
theorem dX7_joins_51 : decode cX7_joins 51 = .ok (.bipush (-9), 2) := by decide +kernel
theorem dX7_joins_53 : decode cX7_joins 53 = .ok (.if_icmp .eq 16, 3) := by decide +kernel
theorem dX7_joins_56 : decode cX7_joins 56 = .ok (.iload 6, 2) := by decide +kernel
theorem dX7_joins_58 : decode cX7_joins 58 = .ok (.invokestatic 187, 3) := by decide +kernel
theorem dX7_joins_61 : decode cX7_joins 61 = .ok (.iload 4, 2) := by decide +kernel
theorem dX7_joins_63 : decode cX7_joins 63 = .ok (.invokestatic 187, 3) := by decide +kernel
theorem dX7_joins_66 : decode cX7_joins 66 = .ok (.if_icmp .ge 7, 3) := by decide +kernel
theorem dX7_joins_69 : decode cX7_joins 69 = .ok (.iconst 1, 1) := by decide +kernel
theorem dX7_joins_70 : decode cX7_joins 70 = .ok (.goto 4, 3) := by decide +kernel
theorem dX7_joins_73 : decode cX7_joins 73 = .ok (.iconst 0, 1) := by decide +kernel
theorem dX7_joins_74 : decode cX7_joins 74 = .ok (.istore 8, 2) := by decide +kernel
theorem dX7_joins_76 : decode cX7_joins 76 = .ok (.iload 8, 2) := by decide +kernel
theorem dX7_joins_78 : decode cX7_joins 78 = .ok (.ifCond .eq 28, 3) := by decide +kernel
theorem dX7_joins_81 : decode cX7_joins 81 = .ok (.iload 7, 2) := by decide +kernel
theorem dX7_joins_83 : decode cX7_joins 83 = .ok (.iload_n 1, 1) := by decide +kernel
theorem dX7_joins_84 : decode cX7_joins 84 = .ok (.iand, 1) := by decide +kernel
theorem dX7_joins_85 : decode cX7_joins 85 = .ok (.iload_n 1, 1) := by decide +kernel
theorem dX7_joins_86 : decode cX7_joins 86 = .ok (.if_icmp .ne 20, 3) := by decide +kernel
theorem dX7_joins_89 : decode cX7_joins 89 = .ok (.aload_n 0, 1) := by decide +kernel
theorem dX7_joins_90 : decode cX7_joins 90 = .ok (.iload_n 3, 1) := by decide +kernel
theorem dX7_joins_91 : decode cX7_joins 91 = .ok (.iload 7, 2) := by decide +kernel
theorem dX7_joins_93 : decode cX7_joins 93 = .ok (.invokevirtual 190, 3) := by decide +kernel
theorem dX7_joins_96 : decode cX7_joins 96 = .ok (.iload_n 1, 1) := by decide +kernel
theorem dX7_joins_97 : decode cX7_joins 97 = .ok (.iand, 1) := by decide +kernel
theorem dX7_joins_98 : decode cX7_joins 98 = .ok (.iload_n 1, 1) := by decide +kernel
theorem dX7_joins_99 : decode cX7_joins 99 = .ok (.if_icmp .ne 7, 3) := by decide +kernel
theorem dX7_joins_102 : decode cX7_joins 102 = .ok (.iload 6, 2) := by decide +kernel
theorem dX7_joins_104 : decode cX7_joins 104 = .ok (.istore 4, 2) := by decide +kernel
theorem dX7_joins_106 : decode cX7_joins 106 = .ok (.iinc 5 1, 3) := by decide +kernel
theorem dX7_joins_109 : decode cX7_joins 109 = .ok (.goto (-86), 3) := by decide +kernel
theorem dX7_joins_112 : decode cX7_joins 112 = .ok (.iload 4, 2) := by decide +kernel
theorem dX7_joins_114 : decode cX7_joins 114 = .ok (.ireturn, 1) := by decide +kernel
theorem dX7_joined_0 : decode cX7_joined 0 = .ok (.aload_n 0, 1) := by decide +kernel
theorem dX7_joined_1 : decode cX7_joined 1 = .ok (.iconst 0, 1) := by decide +kernel
theorem dX7_joined_2 : decode cX7_joined 2 = .ok (.putfield 47, 3) := by decide +kernel
theorem dX7_joined_5 : decode cX7_joined 5 = .ok (.iload_n 2, 1) := by decide +kernel
theorem dX7_joined_6 : decode cX7_joined 6 = .ok (.iconst 0, 1) := by decide +kernel
theorem dX7_joined_7 : decode cX7_joined 7 = .ok (.iconst 1, 1) := by decide +kernel
theorem dX7_joined_8 : decode cX7_joined 8 = .ok (.invokestatic 57, 3) := by decide +kernel
theorem dX7_joined_11 : decode cX7_joined 11 = .ok (.ifCond .ne 5, 3) := by decide +kernel
theorem dX7_joined_14 : decode cX7_joined 14 = .ok (.iconst (-1), 1) := by decide +kernel
theorem dX7_joined_15 : decode cX7_joined 15 = .ok (.ireturn, 1) := by decide +kernel
theorem dX7_joined_16 : decode cX7_joined 16 = .ok (.aload_n 0, 1) := by decide +kernel
theorem dX7_joined_17 : decode cX7_joined 17 = .ok (.invokevirtual 193, 3) := by decide +kernel
theorem dX7_joined_20 : decode cX7_joined 20 = .ok (.istore_n 3, 1) := by decide +kernel
theorem dX7_joined_21 : decode cX7_joined 21 = .ok (.iload_n 3, 1) := by decide +kernel
theorem dX7_joined_22 : decode cX7_joined 22 = .ok (.bipush 10, 2) := by decide +kernel
theorem dX7_joined_24 : decode cX7_joined 24 = .ok (.if_icmp .le 6, 3) := by decide +kernel
theorem dX7_joined_27 : decode cX7_joined 27 = .ok (.bipush (-2), 2) := by decide +kernel
theorem dX7_joined_29 : decode cX7_joined 29 = .ok (.ireturn, 1) := by decide +kernel
theorem dX7_joined_30 : decode cX7_joined 30 = .ok (.aload_n 0, 1) := by decide +kernel
theorem dX7_joined_31 : decode cX7_joined 31 = .ok (.invokevirtual 196, 3) := by decide +kernel
theorem dX7_joined_34 : decode cX7_joined 34 = .ok (.iload_n 1, 1) := by decide +kernel
theorem dX7_joined_35 : decode cX7_joined 35 = .ok (.iconst 1, 1) := by decide +kernel
theorem dX7_joined_36 : decode cX7_joined 36 = .ok (.aload_n 0, 1) := by decide +kernel
theorem dX7_joined_37 : decode cX7_joined 37 = .ok (.getfield 51, 3) := by decide +kernel
theorem dX7_joined_40 : decode cX7_joined 40 = .ok (.aload_n 0, 1) := by decide +kernel
theorem dX7_joined_41 : decode cX7_joined 41 = .ok (.getfield 54, 3) := by decide +kernel
theorem dX7_joined_44 : decode cX7_joined 44 = .ok (.imul, 1) := by decide +kernel
theorem dX7_joined_45 : decode cX7_joined 45 = .ok (.ishl, 1) := by decide +kernel
theorem dX7_joined_46 : decode cX7_joined 46 = .ok (.iconst 1, 1) := by decide +kernel
theorem dX7_joined_47 : decode cX7_joined 47 = .ok (.isub, 1) := by decide +kernel
theorem dX7_joined_48 : decode cX7_joined 48 = .ok (.iand, 1) := by decide +kernel
theorem dX7_joined_49 : decode cX7_joined 49 = .ok (.istore 4, 2) := by decide +kernel
theorem dX7_joined_51 : decode cX7_joined 51 = .ok (.iload 4, 2) := by decide +kernel
theorem dX7_joined_53 : decode cX7_joined 53 = .ok (.ifCond .ne 7, 3) := by decide +kernel
theorem dX7_joined_56 : decode cX7_joined 56 = .ok (.iconst 0, 1) := by decide +kernel
theorem dX7_joined_57 : decode cX7_joined 57 = .ok (.goto 10, 3) := by decide +kernel
theorem dX7_joined_60 : decode cX7_joined 60 = .ok (.aload_n 0, 1) := by decide +kernel
theorem dX7_joined_61 : decode cX7_joined 61 = .ok (.iload 4, 2) := by decide +kernel
theorem dX7_joined_63 : decode cX7_joined 63 = .ok (.iload_n 3, 1) := by decide +kernel
theorem dX7_joined_64 : decode cX7_joined 64 = .ok (.invokevirtual 199, 3) := by decide +kernel
theorem dX7_joined_67 : decode cX7_joined 67 = .ok (.istore 5, 2) := by decide +kernel
theorem dX7_joined_69 : decode cX7_joined 69 = .ok (.iload_n 2, 1) := by decide +kernel
theorem dX7_joined_70 : decode cX7_joined 70 = .ok (.ifCond .ne 11, 3) := by decide +kernel
theorem dX7_joined_73 : decode cX7_joined 73 = .ok (.iload 5, 2) := by decide +kernel
theorem dX7_joined_75 : decode cX7_joined 75 = .ok (.invokestatic 187, 3) := by decide +kernel
theorem dX7_joined_78 : decode cX7_joined 78 = .ok (.goto 5, 3) := by decide +kernel
theorem dX7_joined_81 : decode cX7_joined 81 = .ok (.iload 5, 2) := by decide +kernel
theorem dX7_joined_83 : decode cX7_joined 83 = .ok (.ireturn, 1) := by decide +kernel
theorem dX7_likes_0 : decode cX7_likes 0 = .ok (.aload_n 0, 1) := by decide +kernel
theorem dX7_likes_1 : decode cX7_likes 1 = .ok (.iconst 0, 1) := by decide +kernel
theorem dX7_likes_2 : decode cX7_likes 2 = .ok (.putfield 47, 3) := by decide +kernel
theorem dX7_likes_5 : decode cX7_likes 5 = .ok (.aload_n 0, 1) := by decide +kernel
theorem dX7_likes_6 : decode cX7_likes 6 = .ok (.iload_n 1, 1) := by decide +kernel
theorem dX7_likes_7 : decode cX7_likes 7 = .ok (.invokevirtual 141, 3) := by decide +kernel
theorem dX7_likes_10 : decode cX7_likes 10 = .ok (.ifCond .eq 11, 3) := by decide +kernel
theorem dX7_likes_13 : decode cX7_likes 13 = .ok (.aload_n 0, 1) := by decide +kernel
theorem dX7_likes_14 : decode cX7_likes 14 = .ok (.iload_n 1, 1) := by decide +kernel
theorem dX7_likes_15 : decode cX7_likes 15 = .ok (.invokevirtual 169, 3) := by decide +kernel
theorem dX7_likes_18 : decode cX7_likes 18 = .ok (.goto 4, 3) := by decide +kernel
theorem dX7_likes_21 : decode cX7_likes 21 = .ok (.iconst (-1), 1) := by decide +kernel
theorem dX7_likes_22 : decode cX7_likes 22 = .ok (.ireturn, 1) := by decide +kernel
theorem dX7_byTurns_0 : decode cX7_byTurns 0 = .ok (.aload_n 0, 1) := by decide +kernel
theorem dX7_byTurns_1 : decode cX7_byTurns 1 = .ok (.iconst 0, 1) := by decide +kernel
theorem dX7_byTurns_2 : decode cX7_byTurns 2 = .ok (.putfield 47, 3) := by decide +kernel
theorem dX7_byTurns_5 : decode cX7_byTurns 5 = .ok (.aload_n 0, 1) := by decide +kernel
theorem dX7_byTurns_6 : decode cX7_byTurns 6 = .ok (.iload_n 1, 1) := by decide +kernel
theorem dX7_byTurns_7 : decode cX7_byTurns 7 = .ok (.invokevirtual 137, 3) := by decide +kernel
theorem dX7_byTurns_10 : decode cX7_byTurns 10 = .ok (.ifCond .eq 11, 3) := by decide +kernel
theorem dX7_byTurns_13 : decode cX7_byTurns 13 = .ok (.aload_n 0, 1) := by decide +kernel
theorem dX7_byTurns_14 : decode cX7_byTurns 14 = .ok (.iload_n 2, 1) := by decide +kernel
theorem dX7_byTurns_15 : decode cX7_byTurns 15 = .ok (.invokevirtual 137, 3) := by decide +kernel
theorem dX7_byTurns_18 : decode cX7_byTurns 18 = .ok (.ifCond .ne 5, 3) := by decide +kernel
theorem dX7_byTurns_21 : decode cX7_byTurns 21 = .ok (.iconst (-1), 1) := by decide +kernel
theorem dX7_byTurns_22 : decode cX7_byTurns 22 = .ok (.ireturn, 1) := by decide +kernel
theorem dX7_byTurns_23 : decode cX7_byTurns 23 = .ok (.aload_n 0, 1) := by decide +kernel
theorem dX7_byTurns_24 : decode cX7_byTurns 24 = .ok (.invokevirtual 193, 3) := by decide +kernel
theorem dX7_byTurns_27 : decode cX7_byTurns 27 = .ok (.istore_n 3, 1) := by decide +kernel
theorem dX7_byTurns_28 : decode cX7_byTurns 28 = .ok (.iload_n 3, 1) := by decide +kernel
theorem dX7_byTurns_29 : decode cX7_byTurns 29 = .ok (.bipush 8, 2) := by decide +kernel
theorem dX7_byTurns_31 : decode cX7_byTurns 31 = .ok (.if_icmp .le 6, 3) := by decide +kernel
theorem dX7_byTurns_34 : decode cX7_byTurns 34 = .ok (.bipush (-2), 2) := by decide +kernel
theorem dX7_byTurns_36 : decode cX7_byTurns 36 = .ok (.ireturn, 1) := by decide +kernel
theorem dX7_byTurns_37 : decode cX7_byTurns 37 = .ok (.aload_n 0, 1) := by decide +kernel
theorem dX7_byTurns_38 : decode cX7_byTurns 38 = .ok (.invokevirtual 196, 3) := by decide +kernel
theorem dX7_byTurns_41 : decode cX7_byTurns 41 = .ok (.iconst 1, 1) := by decide +kernel
theorem dX7_byTurns_42 : decode cX7_byTurns 42 = .ok (.iload_n 3, 1) := by decide +kernel
theorem dX7_byTurns_43 : decode cX7_byTurns 43 = .ok (.ishl, 1) := by decide +kernel
theorem dX7_byTurns_44 : decode cX7_byTurns 44 = .ok (.iconst 1, 1) := by decide +kernel
theorem dX7_byTurns_45 : decode cX7_byTurns 45 = .ok (.isub, 1) := by decide +kernel
theorem dX7_byTurns_46 : decode cX7_byTurns 46 = .ok (.istore 4, 2) := by decide +kernel
theorem dX7_byTurns_48 : decode cX7_byTurns 48 = .ok (.iload 4, 2) := by decide +kernel
theorem dX7_byTurns_50 : decode cX7_byTurns 50 = .ok (.ifCond .lt 176, 3) := by decide +kernel
theorem dX7_byTurns_53 : decode cX7_byTurns 53 = .ok (.aload_n 0, 1) := by decide +kernel
theorem dX7_byTurns_54 : decode cX7_byTurns 54 = .ok (.invokevirtual 184, 3) := by decide +kernel
theorem dX7_byTurns_57 : decode cX7_byTurns 57 = .ok (.aload_n 0, 1) := by decide +kernel
theorem dX7_byTurns_58 : decode cX7_byTurns 58 = .ok (.iload 4, 2) := by decide +kernel
theorem dX7_byTurns_60 : decode cX7_byTurns 60 = .ok (.iload_n 3, 1) := by decide +kernel
theorem dX7_byTurns_61 : decode cX7_byTurns 61 = .ok (.invokevirtual 181, 3) := by decide +kernel
theorem dX7_byTurns_64 : decode cX7_byTurns 64 = .ok (.ior, 1) := by decide +kernel
theorem dX7_byTurns_65 : decode cX7_byTurns 65 = .ok (.istore 5, 2) := by decide +kernel
theorem dX7_byTurns_67 : decode cX7_byTurns 67 = .ok (.iload 5, 2) := by decide +kernel
theorem dX7_byTurns_69 : decode cX7_byTurns 69 = .ok (.iload_n 1, 1) := by decide +kernel
theorem dX7_byTurns_70 : decode cX7_byTurns 70 = .ok (.ishr, 1) := by decide +kernel
theorem dX7_byTurns_71 : decode cX7_byTurns 71 = .ok (.iconst 1, 1) := by decide +kernel
theorem dX7_byTurns_72 : decode cX7_byTurns 72 = .ok (.iand, 1) := by decide +kernel
theorem dX7_byTurns_73 : decode cX7_byTurns 73 = .ok (.iconst 1, 1) := by decide +kernel
theorem dX7_byTurns_74 : decode cX7_byTurns 74 = .ok (.if_icmp .ne 22, 3) := by decide +kernel
theorem dX7_byTurns_77 : decode cX7_byTurns 77 = .ok (.aload_n 0, 1) := by decide +kernel
theorem dX7_byTurns_78 : decode cX7_byTurns 78 = .ok (.iload_n 1, 1) := by decide +kernel
theorem dX7_byTurns_79 : decode cX7_byTurns 79 = .ok (.iload 5, 2) := by decide +kernel
theorem dX7_byTurns_81 : decode cX7_byTurns 81 = .ok (.invokevirtual 190, 3) := by decide +kernel
theorem dX7_byTurns_84 : decode cX7_byTurns 84 = .ok (.iload_n 2, 1) := by decide +kernel
theorem dX7_byTurns_85 : decode cX7_byTurns 85 = .ok (.ishr, 1) := by decide +kernel
theorem dX7_byTurns_86 : decode cX7_byTurns 86 = .ok (.iconst 1, 1) := by decide +kernel
theorem dX7_byTurns_87 : decode cX7_byTurns 87 = .ok (.iand, 1) := by decide +kernel
theorem dX7_byTurns_88 : decode cX7_byTurns 88 = .ok (.iconst 1, 1) := by decide +kernel
theorem dX7_byTurns_89 : decode cX7_byTurns 89 = .ok (.if_icmp .ne 7, 3) := by decide +kernel
theorem dX7_byTurns_92 : decode cX7_byTurns 92 = .ok (.iconst 1, 1) := by decide +kernel
theorem dX7_byTurns_93 : decode cX7_byTurns 93 = .ok (.goto 4, 3) := by decide +kernel
theorem dX7_byTurns_96 : decode cX7_byTurns 96 = .ok (.iconst 0, 1) := by decide +kernel
theorem dX7_byTurns_97 : decode cX7_byTurns 97 = .ok (.istore 6, 2) := by decide +kernel
theorem dX7_byTurns_99 : decode cX7_byTurns 99 = .ok (.iload 4, 2) := by decide +kernel
theorem dX7_byTurns_101 : decode cX7_byTurns 101 = .ok (.invokestatic 187, 3) := by decide +kernel
theorem dX7_byTurns_104 : decode cX7_byTurns 104 = .ok (.iconst 2, 1) := by decide +kernel
theorem dX7_byTurns_105 : decode cX7_byTurns 105 = .ok (.irem, 1) := by decide +kernel
theorem dX7_byTurns_106 : decode cX7_byTurns 106 = .ok (.ifCond .ne 7, 3) := by decide +kernel
theorem dX7_byTurns_109 : decode cX7_byTurns 109 = .ok (.iconst 1, 1) := by decide +kernel
theorem dX7_byTurns_110 : decode cX7_byTurns 110 = .ok (.goto 4, 3) := by decide +kernel
theorem dX7_byTurns_113 : decode cX7_byTurns 113 = .ok (.iconst 0, 1) := by decide +kernel
theorem dX7_byTurns_114 : decode cX7_byTurns 114 = .ok (.istore 7, 2) := by decide +kernel
theorem dX7_byTurns_116 : decode cX7_byTurns 116 = .ok (.iload 7, 2) := by decide +kernel
theorem dX7_byTurns_118 : decode cX7_byTurns 118 = .ok (.ifCond .eq 8, 3) := by decide +kernel
theorem dX7_byTurns_121 : decode cX7_byTurns 121 = .ok (.bipush 99, 2) := by decide +kernel
theorem dX7_byTurns_123 : decode cX7_byTurns 123 = .ok (.goto 4, 3) := by decide +kernel
theorem dX7_byTurns_126 : decode cX7_byTurns 126 = .ok (.iconst 0, 1) := by decide +kernel
theorem dX7_byTurns_127 : decode cX7_byTurns 127 = .ok (.istore 8, 2) := by decide +kernel
theorem dX7_byTurns_129 : decode cX7_byTurns 129 = .ok (.iconst 0, 1) := by decide +kernel
theorem dX7_byTurns_130 : decode cX7_byTurns 130 = .ok (.istore 9, 2) := by decide +kernel
theorem dX7_byTurns_132 : decode cX7_byTurns 132 = .ok (.iload 9, 2) := by decide +kernel
theorem dX7_byTurns_134 : decode cX7_byTurns 134 = .ok (.iload_n 3, 1) := by decide +kernel
theorem dX7_byTurns_135 : decode cX7_byTurns 135 = .ok (.if_icmp .ge 67, 3) := by decide +kernel
theorem dX7_byTurns_138 : decode cX7_byTurns 138 = .ok (.iload 4, 2) := by decide +kernel
theorem dX7_byTurns_140 : decode cX7_byTurns 140 = .ok (.iload 9, 2) := by decide +kernel
theorem dX7_byTurns_142 : decode cX7_byTurns 142 = .ok (.ishr, 1) := by decide +kernel
theorem dX7_byTurns_143 : decode cX7_byTurns 143 = .ok (.iconst 1, 1) := by decide +kernel
theorem dX7_byTurns_144 : decode cX7_byTurns 144 = .ok (.iand, 1) := by decide +kernel
theorem dX7_byTurns_145 : decode cX7_byTurns 145 = .ok (.iconst 1, 1) := by decide +kernel
theorem dX7_byTurns_146 : decode cX7_byTurns 146 = .ok (.if_icmp .ne 8, 3) := by decide +kernel
theorem dX7_byTurns_149 : decode cX7_byTurns 149 = .ok (.iload 8, 2) := by decide +kernel
theorem dX7_byTurns_151 : decode cX7_byTurns 151 = .ok (.goto 17, 3) := by decide +kernel
theorem dX7_byTurns_154 : decode cX7_byTurns 154 = .ok (.aload_n 0, 1) := by decide +kernel
theorem dX7_byTurns_155 : decode cX7_byTurns 155 = .ok (.getfield 44, 3) := by decide +kernel
theorem dX7_byTurns_158 : decode cX7_byTurns 158 = .ok (.iload 4, 2) := by decide +kernel
theorem dX7_byTurns_160 : decode cX7_byTurns 160 = .ok (.iconst 1, 1) := by decide +kernel
theorem dX7_byTurns_161 : decode cX7_byTurns 161 = .ok (.iload 9, 2) := by decide +kernel
theorem dX7_byTurns_163 : decode cX7_byTurns 163 = .ok (.ishl, 1) := by decide +kernel
theorem dX7_byTurns_164 : decode cX7_byTurns 164 = .ok (.ior, 1) := by decide +kernel
theorem dX7_byTurns_165 : decode cX7_byTurns 165 = .ok (.iaload, 1) := by decide +kernel
theorem dX7_byTurns_166 : decode cX7_byTurns 166 = .ok (.iconst 1, 1) := by decide +kernel
theorem dX7_byTurns_167 : decode cX7_byTurns 167 = .ok (.iadd, 1) := by decide +kernel
theorem dX7_byTurns_168 : decode cX7_byTurns 168 = .ok (.istore 10, 2) := by decide +kernel
theorem dX7_byTurns_170 : decode cX7_byTurns 170 = .ok (.iload 7, 2) := by decide +kernel
theorem dX7_byTurns_172 : decode cX7_byTurns 172 = .ok (.iload 10, 2) := by decide +kernel
theorem dX7_byTurns_174 : decode cX7_byTurns 174 = .ok (.iload 8, 2) := by decide +kernel
theorem dX7_byTurns_176 : decode cX7_byTurns 176 = .ok (.if_icmp .ge 7, 3) := by decide +kernel
theorem dX7_byTurns_179 : decode cX7_byTurns 179 = .ok (.iconst 1, 1) := by decide +kernel
theorem dX7_byTurns_180 : decode cX7_byTurns 180 = .ok (.goto 4, 3) := by decide +kernel
theorem dX7_byTurns_183 : decode cX7_byTurns 183 = .ok (.iconst 0, 1) := by decide +kernel
theorem dX7_byTurns_184 : decode cX7_byTurns 184 = .ok (.if_icmp .ne 8, 3) := by decide +kernel
theorem dX7_byTurns_187 : decode cX7_byTurns 187 = .ok (.iload 10, 2) := by decide +kernel
theorem dX7_byTurns_189 : decode cX7_byTurns 189 = .ok (.goto 5, 3) := by decide +kernel
theorem dX7_byTurns_192 : decode cX7_byTurns 192 = .ok (.iload 8, 2) := by decide +kernel
theorem dX7_byTurns_194 : decode cX7_byTurns 194 = .ok (.istore 8, 2) := by decide +kernel
theorem dX7_byTurns_196 : decode cX7_byTurns 196 = .ok (.iinc 9 1, 3) := by decide +kernel
theorem dX7_byTurns_199 : decode cX7_byTurns 199 = .ok (.goto (-67), 3) := by decide +kernel
theorem dX7_byTurns_202 : decode cX7_byTurns 202 = .ok (.aload_n 0, 1) := by decide +kernel
theorem dX7_byTurns_203 : decode cX7_byTurns 203 = .ok (.getfield 44, 3) := by decide +kernel
theorem dX7_byTurns_206 : decode cX7_byTurns 206 = .ok (.iload 4, 2) := by decide +kernel
theorem dX7_byTurns_208 : decode cX7_byTurns 208 = .ok (.iload 6, 2) := by decide +kernel
theorem dX7_byTurns_210 : decode cX7_byTurns 210 = .ok (.ifCond .eq 7, 3) := by decide +kernel
theorem dX7_byTurns_213 : decode cX7_byTurns 213 = .ok (.iconst 0, 1) := by decide +kernel
theorem dX7_byTurns_214 : decode cX7_byTurns 214 = .ok (.goto 5, 3) := by decide +kernel
theorem dX7_byTurns_217 : decode cX7_byTurns 217 = .ok (.iload 8, 2) := by decide +kernel
theorem dX7_byTurns_219 : decode cX7_byTurns 219 = .ok (.iastore, 1) := by decide +kernel
theorem dX7_byTurns_220 : decode cX7_byTurns 220 = .ok (.iinc 4 (-1), 3) := by decide +kernel
theorem dX7_byTurns_223 : decode cX7_byTurns 223 = .ok (.goto (-175), 3) := by decide +kernel
theorem dX7_byTurns_226 : decode cX7_byTurns 226 = .ok (.aload_n 0, 1) := by decide +kernel
theorem dX7_byTurns_227 : decode cX7_byTurns 227 = .ok (.getfield 44, 3) := by decide +kernel
theorem dX7_byTurns_230 : decode cX7_byTurns 230 = .ok (.iconst 0, 1) := by decide +kernel
theorem dX7_byTurns_231 : decode cX7_byTurns 231 = .ok (.iaload, 1) := by decide +kernel
theorem dX7_byTurns_232 : decode cX7_byTurns 232 = .ok (.ireturn, 1) := by decide +kernel
theorem dX7_apart_0 : decode cX7_apart 0 = .ok (.aload_n 0, 1) := by decide +kernel
theorem dX7_apart_1 : decode cX7_apart 1 = .ok (.iconst 0, 1) := by decide +kernel
theorem dX7_apart_2 : decode cX7_apart 2 = .ok (.putfield 47, 3) := by decide +kernel
theorem dX7_apart_5 : decode cX7_apart 5 = .ok (.aload_n 0, 1) := by decide +kernel
theorem dX7_apart_6 : decode cX7_apart 6 = .ok (.iload_n 1, 1) := by decide +kernel
theorem dX7_apart_7 : decode cX7_apart 7 = .ok (.invokevirtual 137, 3) := by decide +kernel
theorem dX7_apart_10 : decode cX7_apart 10 = .ok (.ifCond .eq 16, 3) := by decide +kernel
theorem dX7_apart_13 : decode cX7_apart 13 = .ok (.aload_n 0, 1) := by decide +kernel
theorem dX7_apart_14 : decode cX7_apart 14 = .ok (.iload_n 2, 1) := by decide +kernel
theorem dX7_apart_15 : decode cX7_apart 15 = .ok (.invokevirtual 137, 3) := by decide +kernel
theorem dX7_apart_18 : decode cX7_apart 18 = .ok (.ifCond .eq 8, 3) := by decide +kernel
theorem dX7_apart_21 : decode cX7_apart 21 = .ok (.iload_n 1, 1) := by decide +kernel
theorem dX7_apart_22 : decode cX7_apart 22 = .ok (.iload_n 2, 1) := by decide +kernel
theorem dX7_apart_23 : decode cX7_apart 23 = .ok (.if_icmp .ne 5, 3) := by decide +kernel
theorem dX7_apart_26 : decode cX7_apart 26 = .ok (.iconst (-1), 1) := by decide +kernel
theorem dX7_apart_27 : decode cX7_apart 27 = .ok (.ireturn, 1) := by decide +kernel
theorem dX7_apart_28 : decode cX7_apart 28 = .ok (.iconst 1, 1) := by decide +kernel
theorem dX7_apart_29 : decode cX7_apart 29 = .ok (.iload_n 1, 1) := by decide +kernel
theorem dX7_apart_30 : decode cX7_apart 30 = .ok (.ishl, 1) := by decide +kernel
theorem dX7_apart_31 : decode cX7_apart 31 = .ok (.iconst 1, 1) := by decide +kernel
theorem dX7_apart_32 : decode cX7_apart 32 = .ok (.iload_n 2, 1) := by decide +kernel
theorem dX7_apart_33 : decode cX7_apart 33 = .ok (.ishl, 1) := by decide +kernel
theorem dX7_apart_34 : decode cX7_apart 34 = .ok (.ior, 1) := by decide +kernel
theorem dX7_apart_35 : decode cX7_apart 35 = .ok (.istore_n 3, 1) := by decide +kernel
theorem dX7_apart_36 : decode cX7_apart 36 = .ok (.aload_n 0, 1) := by decide +kernel
theorem dX7_apart_37 : decode cX7_apart 37 = .ok (.invokevirtual 184, 3) := by decide +kernel
theorem dX7_apart_40 : decode cX7_apart 40 = .ok (.iload_n 3, 1) := by decide +kernel
theorem dX7_apart_41 : decode cX7_apart 41 = .ok (.iconst (-1), 1) := by decide +kernel
theorem dX7_apart_42 : decode cX7_apart 42 = .ok (.ixor, 1) := by decide +kernel
theorem dX7_apart_43 : decode cX7_apart 43 = .ok (.iand, 1) := by decide +kernel
theorem dX7_apart_44 : decode cX7_apart 44 = .ok (.istore 4, 2) := by decide +kernel
theorem dX7_apart_46 : decode cX7_apart 46 = .ok (.iload 4, 2) := by decide +kernel
theorem dX7_apart_48 : decode cX7_apart 48 = .ok (.invokestatic 187, 3) := by decide +kernel
theorem dX7_apart_51 : decode cX7_apart 51 = .ok (.bipush 12, 2) := by decide +kernel
theorem dX7_apart_53 : decode cX7_apart 53 = .ok (.if_icmp .le 6, 3) := by decide +kernel
theorem dX7_apart_56 : decode cX7_apart 56 = .ok (.bipush (-2), 2) := by decide +kernel
theorem dX7_apart_58 : decode cX7_apart 58 = .ok (.ireturn, 1) := by decide +kernel
theorem dX7_apart_59 : decode cX7_apart 59 = .ok (.aload_n 0, 1) := by decide +kernel
theorem dX7_apart_60 : decode cX7_apart 60 = .ok (.getfield 25, 3) := by decide +kernel
theorem dX7_apart_63 : decode cX7_apart 63 = .ok (.iload_n 1, 1) := by decide +kernel
theorem dX7_apart_64 : decode cX7_apart 64 = .ok (.iaload, 1) := by decide +kernel
theorem dX7_apart_65 : decode cX7_apart 65 = .ok (.iconst 1, 1) := by decide +kernel
theorem dX7_apart_66 : decode cX7_apart 66 = .ok (.if_icmp .eq 22, 3) := by decide +kernel
theorem dX7_apart_69 : decode cX7_apart 69 = .ok (.aload_n 0, 1) := by decide +kernel
theorem dX7_apart_70 : decode cX7_apart 70 = .ok (.getfield 25, 3) := by decide +kernel
theorem dX7_apart_73 : decode cX7_apart 73 = .ok (.iload_n 2, 1) := by decide +kernel
theorem dX7_apart_74 : decode cX7_apart 74 = .ok (.iaload, 1) := by decide +kernel
theorem dX7_apart_75 : decode cX7_apart 75 = .ok (.iconst 1, 1) := by decide +kernel
theorem dX7_apart_76 : decode cX7_apart 76 = .ok (.if_icmp .eq 12, 3) := by decide +kernel
theorem dX7_apart_79 : decode cX7_apart 79 = .ok (.aload_n 0, 1) := by decide +kernel
theorem dX7_apart_80 : decode cX7_apart 80 = .ok (.iload_n 1, 1) := by decide +kernel
theorem dX7_apart_81 : decode cX7_apart 81 = .ok (.iload_n 2, 1) := by decide +kernel
theorem dX7_apart_82 : decode cX7_apart 82 = .ok (.invokevirtual 151, 3) := by decide +kernel
theorem dX7_apart_85 : decode cX7_apart 85 = .ok (.ifCond .eq 6, 3) := by decide +kernel
theorem dX7_apart_88 : decode cX7_apart 88 = .ok (.bipush (-9), 2) := by decide +kernel
theorem dX7_apart_90 : decode cX7_apart 90 = .ok (.ireturn, 1) := by decide +kernel
theorem dX7_apart_91 : decode cX7_apart 91 = .ok (.aload_n 0, 1) := by decide +kernel
theorem dX7_apart_92 : decode cX7_apart 92 = .ok (.invokevirtual 196, 3) := by decide +kernel
theorem dX7_apart_95 : decode cX7_apart 95 = .ok (.iconst 0, 1) := by decide +kernel
theorem dX7_apart_96 : decode cX7_apart 96 = .ok (.istore 5, 2) := by decide +kernel
theorem dX7_apart_98 : decode cX7_apart 98 = .ok (.iconst 0, 1) := by decide +kernel
theorem dX7_apart_99 : decode cX7_apart 99 = .ok (.istore 6, 2) := by decide +kernel
theorem dX7_apart_101 : decode cX7_apart 101 = .ok (.iload 6, 2) := by decide +kernel
theorem dX7_apart_103 : decode cX7_apart 103 = .ok (.aload_n 0, 1) := by decide +kernel
theorem dX7_apart_104 : decode cX7_apart 104 = .ok (.getfield 51, 3) := by decide +kernel
theorem dX7_apart_107 : decode cX7_apart 107 = .ok (.aload_n 0, 1) := by decide +kernel
theorem dX7_apart_108 : decode cX7_apart 108 = .ok (.getfield 54, 3) := by decide +kernel
theorem dX7_apart_111 : decode cX7_apart 111 = .ok (.imul, 1) := by decide +kernel
theorem dX7_apart_112 : decode cX7_apart 112 = .ok (.if_icmp .ge 32, 3) := by decide +kernel
theorem dX7_apart_115 : decode cX7_apart 115 = .ok (.iload 4, 2) := by decide +kernel
theorem dX7_apart_117 : decode cX7_apart 117 = .ok (.iload 6, 2) := by decide +kernel
theorem dX7_apart_119 : decode cX7_apart 119 = .ok (.ishr, 1) := by decide +kernel
theorem dX7_apart_120 : decode cX7_apart 120 = .ok (.iconst 1, 1) := by decide +kernel
theorem dX7_apart_121 : decode cX7_apart 121 = .ok (.iand, 1) := by decide +kernel
theorem dX7_apart_122 : decode cX7_apart 122 = .ok (.iconst 1, 1) := by decide +kernel
theorem dX7_apart_123 : decode cX7_apart 123 = .ok (.if_icmp .ne 15, 3) := by decide +kernel
theorem dX7_apart_126 : decode cX7_apart 126 = .ok (.aload_n 0, 1) := by decide +kernel
theorem dX7_apart_127 : decode cX7_apart 127 = .ok (.getfield 38, 3) := by decide +kernel
theorem dX7_apart_130 : decode cX7_apart 130 = .ok (.iload 5, 2) := by decide +kernel
theorem dX7_apart_132 : decode cX7_apart 132 = .ok (.iload 6, 2) := by decide +kernel
theorem dX7_apart_134 : decode cX7_apart 134 = .ok (.iastore, 1) := by decide +kernel
theorem dX7_apart_135 : decode cX7_apart 135 = .ok (.iinc 5 1, 3) := by decide +kernel
theorem dX7_apart_138 : decode cX7_apart 138 = .ok (.iinc 6 1, 3) := by decide +kernel
theorem dX7_apart_141 : decode cX7_apart 141 = .ok (.goto (-40), 3) := by decide +kernel
theorem dX7_apart_144 : decode cX7_apart 144 = .ok (.bipush 99, 2) := by decide +kernel
theorem dX7_apart_146 : decode cX7_apart 146 = .ok (.istore 6, 2) := by decide +kernel
theorem dX7_apart_148 : decode cX7_apart 148 = .ok (.iconst 0, 1) := by decide +kernel
theorem dX7_apart_149 : decode cX7_apart 149 = .ok (.istore 7, 2) := by decide +kernel
theorem dX7_apart_151 : decode cX7_apart 151 = .ok (.iload 7, 2) := by decide +kernel
theorem dX7_apart_153 : decode cX7_apart 153 = .ok (.iconst 1, 1) := by decide +kernel
theorem dX7_apart_154 : decode cX7_apart 154 = .ok (.iload 5, 2) := by decide +kernel
theorem dX7_apart_156 : decode cX7_apart 156 = .ok (.ishl, 1) := by decide +kernel
theorem dX7_apart_157 : decode cX7_apart 157 = .ok (.if_icmp .ge 74, 3) := by decide +kernel
theorem dX7_apart_160 : decode cX7_apart 160 = .ok (.aload_n 0, 1) := by decide +kernel
theorem dX7_apart_161 : decode cX7_apart 161 = .ok (.iload 7, 2) := by decide +kernel
theorem dX7_apart_163 : decode cX7_apart 163 = .ok (.iload 5, 2) := by decide +kernel
theorem dX7_apart_165 : decode cX7_apart 165 = .ok (.invokevirtual 181, 3) := by decide +kernel
theorem dX7_apart_168 : decode cX7_apart 168 = .ok (.istore 8, 2) := by decide +kernel
theorem dX7_apart_170 : decode cX7_apart 170 = .ok (.iload 8, 2) := by decide +kernel
theorem dX7_apart_172 : decode cX7_apart 172 = .ok (.invokestatic 187, 3) := by decide +kernel
theorem dX7_apart_175 : decode cX7_apart 175 = .ok (.iload 6, 2) := by decide +kernel
theorem dX7_apart_177 : decode cX7_apart 177 = .ok (.if_icmp .ge 7, 3) := by decide +kernel
theorem dX7_apart_180 : decode cX7_apart 180 = .ok (.iconst 1, 1) := by decide +kernel
theorem dX7_apart_181 : decode cX7_apart 181 = .ok (.goto 4, 3) := by decide +kernel
theorem dX7_apart_184 : decode cX7_apart 184 = .ok (.iconst 0, 1) := by decide +kernel
theorem dX7_apart_185 : decode cX7_apart 185 = .ok (.istore 9, 2) := by decide +kernel
theorem dX7_apart_187 : decode cX7_apart 187 = .ok (.iload 9, 2) := by decide +kernel
theorem dX7_apart_189 : decode cX7_apart 189 = .ok (.ifCond .eq 32, 3) := by decide +kernel
theorem dX7_apart_192 : decode cX7_apart 192 = .ok (.aload_n 0, 1) := by decide +kernel
theorem dX7_apart_193 : decode cX7_apart 193 = .ok (.iload_n 1, 1) := by decide +kernel
theorem dX7_apart_194 : decode cX7_apart 194 = .ok (.iload 4, 2) := by decide +kernel
theorem dX7_apart_196 : decode cX7_apart 196 = .ok (.iload 8, 2) := by decide +kernel
theorem dX7_apart_198 : decode cX7_apart 198 = .ok (.iconst (-1), 1) := by decide +kernel
theorem dX7_apart_199 : decode cX7_apart 199 = .ok (.ixor, 1) := by decide +kernel
theorem dX7_apart_200 : decode cX7_apart 200 = .ok (.iand, 1) := by decide +kernel
theorem dX7_apart_201 : decode cX7_apart 201 = .ok (.iload_n 3, 1) := by decide +kernel
theorem dX7_apart_202 : decode cX7_apart 202 = .ok (.ior, 1) := by decide +kernel
theorem dX7_apart_203 : decode cX7_apart 203 = .ok (.invokevirtual 190, 3) := by decide +kernel
theorem dX7_apart_206 : decode cX7_apart 206 = .ok (.iload_n 2, 1) := by decide +kernel
theorem dX7_apart_207 : decode cX7_apart 207 = .ok (.ishr, 1) := by decide +kernel
theorem dX7_apart_208 : decode cX7_apart 208 = .ok (.iconst 1, 1) := by decide +kernel
theorem dX7_apart_209 : decode cX7_apart 209 = .ok (.iand, 1) := by decide +kernel
theorem dX7_apart_210 : decode cX7_apart 210 = .ok (.ifCond .ne 11, 3) := by decide +kernel
theorem dX7_apart_213 : decode cX7_apart 213 = .ok (.iload 8, 2) := by decide +kernel
theorem dX7_apart_215 : decode cX7_apart 215 = .ok (.invokestatic 187, 3) := by decide +kernel
theorem dX7_apart_218 : decode cX7_apart 218 = .ok (.goto 5, 3) := by decide +kernel
theorem dX7_apart_221 : decode cX7_apart 221 = .ok (.iload 6, 2) := by decide +kernel
theorem dX7_apart_223 : decode cX7_apart 223 = .ok (.istore 6, 2) := by decide +kernel
theorem dX7_apart_225 : decode cX7_apart 225 = .ok (.iinc 7 1, 3) := by decide +kernel
theorem dX7_apart_228 : decode cX7_apart 228 = .ok (.goto (-77), 3) := by decide +kernel
theorem dX7_apart_231 : decode cX7_apart 231 = .ok (.iload 6, 2) := by decide +kernel
theorem dX7_apart_233 : decode cX7_apart 233 = .ok (.ireturn, 1) := by decide +kernel
theorem dX7_rate_0 : decode cX7_rate 0 = .ok (.aload_n 0, 1) := by decide +kernel
theorem dX7_rate_1 : decode cX7_rate 1 = .ok (.iconst 0, 1) := by decide +kernel
theorem dX7_rate_2 : decode cX7_rate 2 = .ok (.putfield 47, 3) := by decide +kernel
theorem dX7_rate_5 : decode cX7_rate 5 = .ok (.iload_n 1, 1) := by decide +kernel
theorem dX7_rate_6 : decode cX7_rate 6 = .ok (.iconst 0, 1) := by decide +kernel
theorem dX7_rate_7 : decode cX7_rate 7 = .ok (.iconst 5, 1) := by decide +kernel
theorem dX7_rate_8 : decode cX7_rate 8 = .ok (.invokestatic 57, 3) := by decide +kernel
theorem dX7_rate_11 : decode cX7_rate 11 = .ok (.ifCond .eq 11, 3) := by decide +kernel
theorem dX7_rate_14 : decode cX7_rate 14 = .ok (.aload_n 0, 1) := by decide +kernel
theorem dX7_rate_15 : decode cX7_rate 15 = .ok (.iload_n 2, 1) := by decide +kernel
theorem dX7_rate_16 : decode cX7_rate 16 = .ok (.invokevirtual 141, 3) := by decide +kernel
theorem dX7_rate_19 : decode cX7_rate 19 = .ok (.ifCond .ne 6, 3) := by decide +kernel
theorem dX7_rate_22 : decode cX7_rate 22 = .ok (.ldc 202, 2) := by decide +kernel
theorem dX7_rate_24 : decode cX7_rate 24 = .ok (.ireturn, 1) := by decide +kernel
theorem dX7_rate_25 : decode cX7_rate 25 = .ok (.aload_n 0, 1) := by decide +kernel
theorem dX7_rate_26 : decode cX7_rate 26 = .ok (.aload_n 0, 1) := by decide +kernel
theorem dX7_rate_27 : decode cX7_rate 27 = .ok (.getfield 19, 3) := by decide +kernel
theorem dX7_rate_30 : decode cX7_rate 30 = .ok (.iconst 2, 1) := by decide +kernel
theorem dX7_rate_31 : decode cX7_rate 31 = .ok (.iload_n 2, 1) := by decide +kernel
theorem dX7_rate_32 : decode cX7_rate 32 = .ok (.imul, 1) := by decide +kernel
theorem dX7_rate_33 : decode cX7_rate 33 = .ok (.iaload, 1) := by decide +kernel
theorem dX7_rate_34 : decode cX7_rate 34 = .ok (.aload_n 0, 1) := by decide +kernel
theorem dX7_rate_35 : decode cX7_rate 35 = .ok (.getfield 19, 3) := by decide +kernel
theorem dX7_rate_38 : decode cX7_rate 38 = .ok (.iconst 2, 1) := by decide +kernel
theorem dX7_rate_39 : decode cX7_rate 39 = .ok (.iload_n 2, 1) := by decide +kernel
theorem dX7_rate_40 : decode cX7_rate 40 = .ok (.imul, 1) := by decide +kernel
theorem dX7_rate_41 : decode cX7_rate 41 = .ok (.iconst 1, 1) := by decide +kernel
theorem dX7_rate_42 : decode cX7_rate 42 = .ok (.iadd, 1) := by decide +kernel
theorem dX7_rate_43 : decode cX7_rate 43 = .ok (.iaload, 1) := by decide +kernel
theorem dX7_rate_44 : decode cX7_rate 44 = .ok (.invokevirtual 159, 3) := by decide +kernel
theorem dX7_rate_47 : decode cX7_rate 47 = .ok (.istore_n 3, 1) := by decide +kernel
theorem dX7_rate_48 : decode cX7_rate 48 = .ok (.iload_n 3, 1) := by decide +kernel
theorem dX7_rate_49 : decode cX7_rate 49 = .ok (.bipush (-9), 2) := by decide +kernel
theorem dX7_rate_51 : decode cX7_rate 51 = .ok (.if_icmp .ne 7, 3) := by decide +kernel
theorem dX7_rate_54 : decode cX7_rate 54 = .ok (.iconst 0, 1) := by decide +kernel
theorem dX7_rate_55 : decode cX7_rate 55 = .ok (.goto 4, 3) := by decide +kernel
theorem dX7_rate_58 : decode cX7_rate 58 = .ok (.iload_n 3, 1) := by decide +kernel
theorem dX7_rate_59 : decode cX7_rate 59 = .ok (.istore 4, 2) := by decide +kernel
theorem dX7_rate_61 : decode cX7_rate 61 = .ok (.aload_n 0, 1) := by decide +kernel
theorem dX7_rate_62 : decode cX7_rate 62 = .ok (.dup, 1) := by decide +kernel
theorem dX7_rate_63 : decode cX7_rate 63 = .ok (.getfield 203, 3) := by decide +kernel
theorem dX7_rate_66 : decode cX7_rate 66 = .ok (.iload_n 1, 1) := by decide +kernel
theorem dX7_rate_67 : decode cX7_rate 67 = .ok (.ifCond .ne 7, 3) := by decide +kernel
theorem dX7_rate_70 : decode cX7_rate 70 = .ok (.lconst 1, 1) := by decide +kernel
theorem dX7_rate_71 : decode cX7_rate 71 = .ok (.goto 50, 3) := by decide +kernel
theorem dX7_rate_74 : decode cX7_rate 74 = .ok (.iload_n 1, 1) := by decide +kernel
theorem dX7_rate_75 : decode cX7_rate 75 = .ok (.iconst 1, 1) := by decide +kernel
theorem dX7_rate_76 : decode cX7_rate 76 = .ok (.if_icmp .ne 9, 3) := by decide +kernel
theorem dX7_rate_79 : decode cX7_rate 79 = .ok (.ldc2_w 207, 3) := by decide +kernel
theorem dX7_rate_82 : decode cX7_rate 82 = .ok (.goto 39, 3) := by decide +kernel
theorem dX7_rate_85 : decode cX7_rate 85 = .ok (.iload_n 1, 1) := by decide +kernel
theorem dX7_rate_86 : decode cX7_rate 86 = .ok (.iconst 2, 1) := by decide +kernel
theorem dX7_rate_87 : decode cX7_rate 87 = .ok (.if_icmp .ne 9, 3) := by decide +kernel
theorem dX7_rate_90 : decode cX7_rate 90 = .ok (.ldc2_w 209, 3) := by decide +kernel
theorem dX7_rate_93 : decode cX7_rate 93 = .ok (.goto 28, 3) := by decide +kernel
theorem dX7_rate_96 : decode cX7_rate 96 = .ok (.iload_n 1, 1) := by decide +kernel
theorem dX7_rate_97 : decode cX7_rate 97 = .ok (.iconst 3, 1) := by decide +kernel
theorem dX7_rate_98 : decode cX7_rate 98 = .ok (.if_icmp .ne 9, 3) := by decide +kernel
theorem dX7_rate_101 : decode cX7_rate 101 = .ok (.ldc2_w 211, 3) := by decide +kernel
theorem dX7_rate_104 : decode cX7_rate 104 = .ok (.goto 17, 3) := by decide +kernel
theorem dX7_rate_107 : decode cX7_rate 107 = .ok (.iload_n 1, 1) := by decide +kernel
theorem dX7_rate_108 : decode cX7_rate 108 = .ok (.iconst 4, 1) := by decide +kernel
theorem dX7_rate_109 : decode cX7_rate 109 = .ok (.if_icmp .ne 9, 3) := by decide +kernel
theorem dX7_rate_112 : decode cX7_rate 112 = .ok (.ldc2_w 213, 3) := by decide +kernel
theorem dX7_rate_115 : decode cX7_rate 115 = .ok (.goto 6, 3) := by decide +kernel
theorem dX7_rate_118 : decode cX7_rate 118 = .ok (.ldc2_w 215, 3) := by decide +kernel
theorem dX7_rate_121 : decode cX7_rate 121 = .ok (.ladd, 1) := by decide +kernel
theorem dX7_rate_122 : decode cX7_rate 122 = .ok (.putfield 203, 3) := by decide +kernel
theorem dX7_rate_125 : decode cX7_rate 125 = .ok (.iload 4, 2) := by decide +kernel
theorem dX7_rate_127 : decode cX7_rate 127 = .ok (.aload_n 0, 1) := by decide +kernel
theorem dX7_rate_128 : decode cX7_rate 128 = .ok (.getfield 25, 3) := by decide +kernel
theorem dX7_rate_131 : decode cX7_rate 131 = .ok (.bipush 72, 2) := by decide +kernel
theorem dX7_rate_133 : decode cX7_rate 133 = .ok (.iload_n 2, 1) := by decide +kernel
theorem dX7_rate_134 : decode cX7_rate 134 = .ok (.iadd, 1) := by decide +kernel
theorem dX7_rate_135 : decode cX7_rate 135 = .ok (.iaload, 1) := by decide +kernel
theorem dX7_rate_136 : decode cX7_rate 136 = .ok (.iadd, 1) := by decide +kernel
theorem dX7_rate_137 : decode cX7_rate 137 = .ok (.istore 5, 2) := by decide +kernel
theorem dX7_rate_139 : decode cX7_rate 139 = .ok (.iload 4, 2) := by decide +kernel
theorem dX7_rate_141 : decode cX7_rate 141 = .ok (.aload_n 0, 1) := by decide +kernel
theorem dX7_rate_142 : decode cX7_rate 142 = .ok (.iload_n 2, 1) := by decide +kernel
theorem dX7_rate_143 : decode cX7_rate 143 = .ok (.invokevirtual 144, 3) := by decide +kernel
theorem dX7_rate_146 : decode cX7_rate 146 = .ok (.isub, 1) := by decide +kernel
theorem dX7_rate_147 : decode cX7_rate 147 = .ok (.istore 6, 2) := by decide +kernel
theorem dX7_rate_149 : decode cX7_rate 149 = .ok (.iload_n 1, 1) := by decide +kernel
theorem dX7_rate_150 : decode cX7_rate 150 = .ok (.ifCond .ne 8, 3) := by decide +kernel
theorem dX7_rate_153 : decode cX7_rate 153 = .ok (.iload 4, 2) := by decide +kernel
theorem dX7_rate_155 : decode cX7_rate 155 = .ok (.goto 72, 3) := by decide +kernel
theorem dX7_rate_158 : decode cX7_rate 158 = .ok (.iload_n 1, 1) := by decide +kernel
theorem dX7_rate_159 : decode cX7_rate 159 = .ok (.iconst 1, 1) := by decide +kernel
theorem dX7_rate_160 : decode cX7_rate 160 = .ok (.if_icmp .ne 8, 3) := by decide +kernel
theorem dX7_rate_163 : decode cX7_rate 163 = .ok (.iload 5, 2) := by decide +kernel
theorem dX7_rate_165 : decode cX7_rate 165 = .ok (.goto 62, 3) := by decide +kernel
theorem dX7_rate_168 : decode cX7_rate 168 = .ok (.iload_n 1, 1) := by decide +kernel
theorem dX7_rate_169 : decode cX7_rate 169 = .ok (.iconst 2, 1) := by decide +kernel
theorem dX7_rate_170 : decode cX7_rate 170 = .ok (.if_icmp .ne 8, 3) := by decide +kernel
theorem dX7_rate_173 : decode cX7_rate 173 = .ok (.iload 6, 2) := by decide +kernel
theorem dX7_rate_175 : decode cX7_rate 175 = .ok (.goto 52, 3) := by decide +kernel
theorem dX7_rate_178 : decode cX7_rate 178 = .ok (.iload_n 1, 1) := by decide +kernel
theorem dX7_rate_179 : decode cX7_rate 179 = .ok (.iconst 3, 1) := by decide +kernel
theorem dX7_rate_180 : decode cX7_rate 180 = .ok (.if_icmp .ne 10, 3) := by decide +kernel
theorem dX7_rate_183 : decode cX7_rate 183 = .ok (.iconst 2, 1) := by decide +kernel
theorem dX7_rate_184 : decode cX7_rate 184 = .ok (.iload 5, 2) := by decide +kernel
theorem dX7_rate_186 : decode cX7_rate 186 = .ok (.imul, 1) := by decide +kernel
theorem dX7_rate_187 : decode cX7_rate 187 = .ok (.goto 40, 3) := by decide +kernel
theorem dX7_rate_190 : decode cX7_rate 190 = .ok (.iload_n 1, 1) := by decide +kernel
theorem dX7_rate_191 : decode cX7_rate 191 = .ok (.iconst 4, 1) := by decide +kernel
theorem dX7_rate_192 : decode cX7_rate 192 = .ok (.if_icmp .ne 10, 3) := by decide +kernel
theorem dX7_rate_195 : decode cX7_rate 195 = .ok (.iload 6, 2) := by decide +kernel
theorem dX7_rate_197 : decode cX7_rate 197 = .ok (.iload_n 2, 1) := by decide +kernel
theorem dX7_rate_198 : decode cX7_rate 198 = .ok (.iadd, 1) := by decide +kernel
theorem dX7_rate_199 : decode cX7_rate 199 = .ok (.goto 28, 3) := by decide +kernel
theorem dX7_rate_202 : decode cX7_rate 202 = .ok (.iload 4, 2) := by decide +kernel
theorem dX7_rate_204 : decode cX7_rate 204 = .ok (.aload_n 0, 1) := by decide +kernel
theorem dX7_rate_205 : decode cX7_rate 205 = .ok (.aload_n 0, 1) := by decide +kernel
theorem dX7_rate_206 : decode cX7_rate 206 = .ok (.getfield 19, 3) := by decide +kernel
theorem dX7_rate_209 : decode cX7_rate 209 = .ok (.iconst 2, 1) := by decide +kernel
theorem dX7_rate_210 : decode cX7_rate 210 = .ok (.iload_n 2, 1) := by decide +kernel
theorem dX7_rate_211 : decode cX7_rate 211 = .ok (.imul, 1) := by decide +kernel
theorem dX7_rate_212 : decode cX7_rate 212 = .ok (.iaload, 1) := by decide +kernel
theorem dX7_rate_213 : decode cX7_rate 213 = .ok (.aload_n 0, 1) := by decide +kernel
theorem dX7_rate_214 : decode cX7_rate 214 = .ok (.getfield 19, 3) := by decide +kernel
theorem dX7_rate_217 : decode cX7_rate 217 = .ok (.iconst 2, 1) := by decide +kernel
theorem dX7_rate_218 : decode cX7_rate 218 = .ok (.iload_n 2, 1) := by decide +kernel
theorem dX7_rate_219 : decode cX7_rate 219 = .ok (.imul, 1) := by decide +kernel
theorem dX7_rate_220 : decode cX7_rate 220 = .ok (.iconst 1, 1) := by decide +kernel
theorem dX7_rate_221 : decode cX7_rate 221 = .ok (.iadd, 1) := by decide +kernel
theorem dX7_rate_222 : decode cX7_rate 222 = .ok (.iaload, 1) := by decide +kernel
theorem dX7_rate_223 : decode cX7_rate 223 = .ok (.invokevirtual 178, 3) := by decide +kernel
theorem dX7_rate_226 : decode cX7_rate 226 = .ok (.iadd, 1) := by decide +kernel
theorem dX7_rate_227 : decode cX7_rate 227 = .ok (.ireturn, 1) := by decide +kernel
theorem dX7_keep_0 : decode cX7_keep 0 = .ok (.aload_n 0, 1) := by decide +kernel
theorem dX7_keep_1 : decode cX7_keep 1 = .ok (.iconst 0, 1) := by decide +kernel
theorem dX7_keep_2 : decode cX7_keep 2 = .ok (.putfield 47, 3) := by decide +kernel
theorem dX7_keep_5 : decode cX7_keep 5 = .ok (.iload_n 1, 1) := by decide +kernel
theorem dX7_keep_6 : decode cX7_keep 6 = .ok (.iconst 0, 1) := by decide +kernel
theorem dX7_keep_7 : decode cX7_keep 7 = .ok (.iconst 1, 1) := by decide +kernel
theorem dX7_keep_8 : decode cX7_keep 8 = .ok (.invokestatic 57, 3) := by decide +kernel
theorem dX7_keep_11 : decode cX7_keep 11 = .ok (.ifCond .ne 5, 3) := by decide +kernel
theorem dX7_keep_14 : decode cX7_keep 14 = .ok (.iconst (-1), 1) := by decide +kernel
theorem dX7_keep_15 : decode cX7_keep 15 = .ok (.ireturn, 1) := by decide +kernel
theorem dX7_keep_16 : decode cX7_keep 16 = .ok (.iconst 0, 1) := by decide +kernel
theorem dX7_keep_17 : decode cX7_keep 17 = .ok (.istore_n 2, 1) := by decide +kernel
theorem dX7_keep_18 : decode cX7_keep 18 = .ok (.iload_n 2, 1) := by decide +kernel
theorem dX7_keep_19 : decode cX7_keep 19 = .ok (.bipush 76, 2) := by decide +kernel
theorem dX7_keep_21 : decode cX7_keep 21 = .ok (.if_icmp .ge 26, 3) := by decide +kernel
theorem dX7_keep_24 : decode cX7_keep 24 = .ok (.aload_n 0, 1) := by decide +kernel
theorem dX7_keep_25 : decode cX7_keep 25 = .ok (.getfield 28, 3) := by decide +kernel
theorem dX7_keep_28 : decode cX7_keep 28 = .ok (.bipush 76, 2) := by decide +kernel
theorem dX7_keep_30 : decode cX7_keep 30 = .ok (.iload_n 1, 1) := by decide +kernel
theorem dX7_keep_31 : decode cX7_keep 31 = .ok (.imul, 1) := by decide +kernel
theorem dX7_keep_32 : decode cX7_keep 32 = .ok (.iload_n 2, 1) := by decide +kernel
theorem dX7_keep_33 : decode cX7_keep 33 = .ok (.iadd, 1) := by decide +kernel
theorem dX7_keep_34 : decode cX7_keep 34 = .ok (.aload_n 0, 1) := by decide +kernel
theorem dX7_keep_35 : decode cX7_keep 35 = .ok (.getfield 25, 3) := by decide +kernel
theorem dX7_keep_38 : decode cX7_keep 38 = .ok (.iload_n 2, 1) := by decide +kernel
theorem dX7_keep_39 : decode cX7_keep 39 = .ok (.iaload, 1) := by decide +kernel
theorem dX7_keep_40 : decode cX7_keep 40 = .ok (.iastore, 1) := by decide +kernel
theorem dX7_keep_41 : decode cX7_keep 41 = .ok (.iinc 2 1, 3) := by decide +kernel
theorem dX7_keep_44 : decode cX7_keep 44 = .ok (.goto (-26), 3) := by decide +kernel
theorem dX7_keep_47 : decode cX7_keep 47 = .ok (.aload_n 0, 1) := by decide +kernel
theorem dX7_keep_48 : decode cX7_keep 48 = .ok (.getfield 31, 3) := by decide +kernel
theorem dX7_keep_51 : decode cX7_keep 51 = .ok (.iload_n 1, 1) := by decide +kernel
theorem dX7_keep_52 : decode cX7_keep 52 = .ok (.iconst 1, 1) := by decide +kernel
theorem dX7_keep_53 : decode cX7_keep 53 = .ok (.bastore, 1) := by decide +kernel
theorem dX7_keep_54 : decode cX7_keep 54 = .ok (.aload_n 0, 1) := by decide +kernel
theorem dX7_keep_55 : decode cX7_keep 55 = .ok (.iconst 2, 1) := by decide +kernel
theorem dX7_keep_56 : decode cX7_keep 56 = .ok (.invokevirtual 172, 3) := by decide +kernel
theorem dX7_keep_59 : decode cX7_keep 59 = .ok (.ireturn, 1) := by decide +kernel
theorem dX7_back_0 : decode cX7_back 0 = .ok (.aload_n 0, 1) := by decide +kernel
theorem dX7_back_1 : decode cX7_back 1 = .ok (.iconst 0, 1) := by decide +kernel
theorem dX7_back_2 : decode cX7_back 2 = .ok (.putfield 47, 3) := by decide +kernel
theorem dX7_back_5 : decode cX7_back 5 = .ok (.iload_n 1, 1) := by decide +kernel
theorem dX7_back_6 : decode cX7_back 6 = .ok (.iconst 0, 1) := by decide +kernel
theorem dX7_back_7 : decode cX7_back 7 = .ok (.iconst 1, 1) := by decide +kernel
theorem dX7_back_8 : decode cX7_back 8 = .ok (.invokestatic 57, 3) := by decide +kernel
theorem dX7_back_11 : decode cX7_back 11 = .ok (.ifCond .ne 5, 3) := by decide +kernel
theorem dX7_back_14 : decode cX7_back 14 = .ok (.iconst (-1), 1) := by decide +kernel
theorem dX7_back_15 : decode cX7_back 15 = .ok (.ireturn, 1) := by decide +kernel
theorem dX7_back_16 : decode cX7_back 16 = .ok (.aload_n 0, 1) := by decide +kernel
theorem dX7_back_17 : decode cX7_back 17 = .ok (.getfield 31, 3) := by decide +kernel
theorem dX7_back_20 : decode cX7_back 20 = .ok (.iload_n 1, 1) := by decide +kernel
theorem dX7_back_21 : decode cX7_back 21 = .ok (.baload, 1) := by decide +kernel
theorem dX7_back_22 : decode cX7_back 22 = .ok (.ifCond .ne 6, 3) := by decide +kernel
theorem dX7_back_25 : decode cX7_back 25 = .ok (.bipush (-2), 2) := by decide +kernel
theorem dX7_back_27 : decode cX7_back 27 = .ok (.ireturn, 1) := by decide +kernel
theorem dX7_back_28 : decode cX7_back 28 = .ok (.iconst 0, 1) := by decide +kernel
theorem dX7_back_29 : decode cX7_back 29 = .ok (.istore_n 2, 1) := by decide +kernel
theorem dX7_back_30 : decode cX7_back 30 = .ok (.iload_n 2, 1) := by decide +kernel
theorem dX7_back_31 : decode cX7_back 31 = .ok (.bipush 76, 2) := by decide +kernel
theorem dX7_back_33 : decode cX7_back 33 = .ok (.if_icmp .ge 26, 3) := by decide +kernel
theorem dX7_back_36 : decode cX7_back 36 = .ok (.aload_n 0, 1) := by decide +kernel
theorem dX7_back_37 : decode cX7_back 37 = .ok (.getfield 25, 3) := by decide +kernel
theorem dX7_back_40 : decode cX7_back 40 = .ok (.iload_n 2, 1) := by decide +kernel
theorem dX7_back_41 : decode cX7_back 41 = .ok (.aload_n 0, 1) := by decide +kernel
theorem dX7_back_42 : decode cX7_back 42 = .ok (.getfield 28, 3) := by decide +kernel
theorem dX7_back_45 : decode cX7_back 45 = .ok (.bipush 76, 2) := by decide +kernel
theorem dX7_back_47 : decode cX7_back 47 = .ok (.iload_n 1, 1) := by decide +kernel
theorem dX7_back_48 : decode cX7_back 48 = .ok (.imul, 1) := by decide +kernel
theorem dX7_back_49 : decode cX7_back 49 = .ok (.iload_n 2, 1) := by decide +kernel
theorem dX7_back_50 : decode cX7_back 50 = .ok (.iadd, 1) := by decide +kernel
theorem dX7_back_51 : decode cX7_back 51 = .ok (.iaload, 1) := by decide +kernel
theorem dX7_back_52 : decode cX7_back 52 = .ok (.iastore, 1) := by decide +kernel
theorem dX7_back_53 : decode cX7_back 53 = .ok (.iinc 2 1, 3) := by decide +kernel
theorem dX7_back_56 : decode cX7_back 56 = .ok (.goto (-26), 3) := by decide +kernel
theorem dX7_back_59 : decode cX7_back 59 = .ok (.aload_n 0, 1) := by decide +kernel
theorem dX7_back_60 : decode cX7_back 60 = .ok (.iconst 2, 1) := by decide +kernel
theorem dX7_back_61 : decode cX7_back 61 = .ok (.invokevirtual 172, 3) := by decide +kernel
theorem dX7_back_64 : decode cX7_back 64 = .ok (.ireturn, 1) := by decide +kernel
theorem dX7_count_0 : decode cX7_count 0 = .ok (.aload_n 0, 1) := by decide +kernel
theorem dX7_count_1 : decode cX7_count 1 = .ok (.iconst 0, 1) := by decide +kernel
theorem dX7_count_2 : decode cX7_count 2 = .ok (.putfield 47, 3) := by decide +kernel
theorem dX7_count_5 : decode cX7_count 5 = .ok (.iload_n 1, 1) := by decide +kernel
theorem dX7_count_6 : decode cX7_count 6 = .ok (.ifCond .ne 10, 3) := by decide +kernel
theorem dX7_count_9 : decode cX7_count 9 = .ok (.aload_n 0, 1) := by decide +kernel
theorem dX7_count_10 : decode cX7_count 10 = .ok (.getfield 51, 3) := by decide +kernel
theorem dX7_count_13 : decode cX7_count 13 = .ok (.goto 52, 3) := by decide +kernel
theorem dX7_count_16 : decode cX7_count 16 = .ok (.iload_n 1, 1) := by decide +kernel
theorem dX7_count_17 : decode cX7_count 17 = .ok (.iconst 1, 1) := by decide +kernel
theorem dX7_count_18 : decode cX7_count 18 = .ok (.if_icmp .ne 10, 3) := by decide +kernel
theorem dX7_count_21 : decode cX7_count 21 = .ok (.aload_n 0, 1) := by decide +kernel
theorem dX7_count_22 : decode cX7_count 22 = .ok (.getfield 54, 3) := by decide +kernel
theorem dX7_count_25 : decode cX7_count 25 = .ok (.goto 40, 3) := by decide +kernel
theorem dX7_count_28 : decode cX7_count 28 = .ok (.iload_n 1, 1) := by decide +kernel
theorem dX7_count_29 : decode cX7_count 29 = .ok (.iconst 2, 1) := by decide +kernel
theorem dX7_count_30 : decode cX7_count 30 = .ok (.if_icmp .ne 10, 3) := by decide +kernel
theorem dX7_count_33 : decode cX7_count 33 = .ok (.aload_n 0, 1) := by decide +kernel
theorem dX7_count_34 : decode cX7_count 34 = .ok (.getfield 61, 3) := by decide +kernel
theorem dX7_count_37 : decode cX7_count 37 = .ok (.goto 28, 3) := by decide +kernel
theorem dX7_count_40 : decode cX7_count 40 = .ok (.iload_n 1, 1) := by decide +kernel
theorem dX7_count_41 : decode cX7_count 41 = .ok (.iconst 3, 1) := by decide +kernel
theorem dX7_count_42 : decode cX7_count 42 = .ok (.if_icmp .ne 10, 3) := by decide +kernel
theorem dX7_count_45 : decode cX7_count 45 = .ok (.aload_n 0, 1) := by decide +kernel
theorem dX7_count_46 : decode cX7_count 46 = .ok (.getfield 128, 3) := by decide +kernel
theorem dX7_count_49 : decode cX7_count 49 = .ok (.goto 16, 3) := by decide +kernel
theorem dX7_count_52 : decode cX7_count 52 = .ok (.iload_n 1, 1) := by decide +kernel
theorem dX7_count_53 : decode cX7_count 53 = .ok (.iconst 4, 1) := by decide +kernel
theorem dX7_count_54 : decode cX7_count 54 = .ok (.if_icmp .ne 10, 3) := by decide +kernel
theorem dX7_count_57 : decode cX7_count 57 = .ok (.aload_n 0, 1) := by decide +kernel
theorem dX7_count_58 : decode cX7_count 58 = .ok (.getfield 64, 3) := by decide +kernel
theorem dX7_count_61 : decode cX7_count 61 = .ok (.goto 4, 3) := by decide +kernel
theorem dX7_count_64 : decode cX7_count 64 = .ok (.iconst (-1), 1) := by decide +kernel
theorem dX7_count_65 : decode cX7_count 65 = .ok (.ireturn, 1) := by decide +kernel
theorem dX7_trace_0 : decode cX7_trace 0 = .ok (.aload_n 0, 1) := by decide +kernel
theorem dX7_trace_1 : decode cX7_trace 1 = .ok (.iconst 0, 1) := by decide +kernel
theorem dX7_trace_2 : decode cX7_trace 2 = .ok (.putfield 47, 3) := by decide +kernel
theorem dX7_trace_5 : decode cX7_trace 5 = .ok (.aload_n 0, 1) := by decide +kernel
theorem dX7_trace_6 : decode cX7_trace 6 = .ok (.getfield 203, 3) := by decide +kernel
theorem dX7_trace_9 : decode cX7_trace 9 = .ok (.lreturn, 1) := by decide +kernel
end
section
/-! ===== the world: 38 cells, made by the constructors, and a logic over it (wp) that hides the machine ===== -/
abbrev GG : Type := Launch × va_G × (Nat → Nat) × (Nat → Nat) × (Nat → Nat) × ClassId × ClassId
def g_l (g : GG) : Launch := g.1
def g_D (g : GG) : va_G := g.2.1
def g_ad (g : GG) : Nat → Nat := g.2.2.1
def g_aK (g : GG) : Nat → Nat := g.2.2.2.1
def g_aV (g : GG) : Nat → Nat := g.2.2.2.2.1
def g_cI (g : GG) : ClassId := g.2.2.2.2.2.1
def g_cZ (g : GG) : ClassId := g.2.2.2.2.2.2
def ob (g : GG) (o : Nat) : Value := .ref (g_ad g o)
def sk (g : GG) (i : Nat) : Value := .ref (g_aK g i)
def sv (g : GG) (i : Nat) : Value := .ref (g_aV g i)
abbrev Mem : Type := (Nat → Nat → Int32) × (Nat → Int64)
def upI (M : Mem) (o k : Nat) (v : Int32) : Mem := (fun a => if a = o then upd (M.1 o) k v else M.1 a, M.2)
def upT (M : Mem) (o : Nat) (v : Int64) : Mem := (M.1, fun a => if a = o then v else M.2 a)
def setO (M : Mem) (o : Nat) (f : Nat → Int32) : Mem := (fun a => if a = o then f else M.1 a, M.2)
def cNow (g : GG) (f : Nat → Int32) (b : Nat) : va_E := .inr (0, [.int (f 0), .int (f 1), ob g (b + 1), ob g (b + 2), ob g (b + 3), .int (f 5)])
def cTold (g : GG) (f : Nat → Int32) (b : Nat) : va_E := .inr (4, [.int (f 0), .int (f 1), .int (f 2), .int (f 3), .int (f 4), .int (f 5), .int (f 6), .int (f 7), ob g (b + 1), ob g (b + 2)])
def cArr (g : GG) (f : Nat → Int32) (n : Nat) : va_E := .inl (g_cI g, n, .inl f)
def cell_ (g : GG) (o : Nat) (f : Nat → Int32) (t : Int64) : va_E := match o with
  | 0 => .inr (6, [ob g 1, ob g 2, ob g 4, ob g 7, ob g 10, ob g 11, ob g 13, ob g 17, ob g 21, .long t])
  | 1 => .inr (2, [ob g 2, .int (f 1), .int (f 2), .int (f 3), .int (f 4)])
  | 2 => .inr (3, [ob g 3, .int (f 1)])
  | 3 => cArr g f 300
  | 4 => cTold g f 4
  | 5 => cArr g f 4
  | 6 => cArr g f 4
  | 7 => cTold g f 7
  | 8 => cArr g f 4
  | 9 => cArr g f 4
  | 10 => .inr (1, [ob g 11, ob g 12])
  | 11 => .inr (5, [.int (f 0), .int (f 1), .int (f 2), .int (f 3)])
  | 12 => cArr g f 256
  | 13 => cNow g f 13
  | 14 => cArr g f 24
  | 15 => cArr g f 24
  | 16 => cArr g f 4
  | 17 => cNow g f 17
  | 18 => cArr g f 24
  | 19 => cArr g f 24
  | 20 => cArr g f 4
  | 21 => cNow g f 21
  | 22 => cArr g f 24
  | 23 => cArr g f 24
  | 24 => cArr g f 4
  | 25 => .inr (7, [.int (f 0), .long t, ob g 26, .int (f 3), ob g 27, ob g 28, ob g 29, ob g 30, .int (f 8), .int (f 9), .int (f 10), .int (f 11), .int (f 12), .int (f 13), .int (f 14), .int (f 15), ob g 31, ob g 32, ob g 33, .int (f 19), .int (f 20), .int (f 21), .int (f 22), ob g 34, ob g 35, ob g 36, ob g 37])
  | 26 => cArr g f 300
  | 27 => cArr g f 24
  | 28 => cArr g f 24
  | 29 => cArr g f 8
  | 30 => cArr g f 8
  | 31 => cArr g f 76
  | 32 => cArr g f 152
  | 33 => .inl (g_cZ g, 2, .inl f)
  | 34 => cArr g f 24
  | 35 => cArr g f 24
  | 36 => cArr g f 24
  | _ => cArr g f 256
def world (g : GG) (M : Mem) : va_W := (List.range 38).map fun o => (g_ad g o, cell_ g o (M.1 o) (M.2 o))
def AA (g : GG) : Nat → Prop := fun q => ∃ o, o < 38 ∧ q = g_ad g o
theorem world_get (g : GG) (M : Mem) {o : Nat} (h : o < 38) : (world g M)[o]? = some (g_ad g o, cell_ g o (M.1 o) (M.2 o)) := by
  simp [world, List.getElem?_map, List.getElem?_range h]
theorem world_set (g : GG) (M M' : Mem) {o : Nat} (h : o < 38) {e : va_E} (he : cell_ g o (M'.1 o) (M'.2 o) = e) (hn : ∀ a, a ≠ o → M'.1 a = M.1 a ∧ M'.2 a = M.2 a) : (world g M).set o (g_ad g o, e) = world g M' := by
  refine List.ext_getElem? fun k => ?_
  by_cases hk : k < 38
  · by_cases hko : k = o
    · subst hko
      rw [List.getElem?_set_self (by simp [world, hk]), world_get g M' hk, he]
    · rw [List.getElem?_set_ne (Ne.symm hko), world_get g M hk, world_get g M' hk, (hn k hko).1, (hn k hko).2]
  · rw [List.getElem?_eq_none (by simp [world]; omega), List.getElem?_eq_none (by simp [world]; omega)]
theorem upI_ne (M : Mem) (o k : Nat) (v : Int32) {a : Nat} (h : a ≠ o) : (upI M o k v).1 a = M.1 a ∧ (upI M o k v).2 a = M.2 a := ⟨if_neg h, rfl⟩
theorem upI_eq (M : Mem) (o k : Nat) (v : Int32) : (upI M o k v).1 o = upd (M.1 o) k v := if_pos rfl
theorem upT_ne (M : Mem) (o : Nat) (v : Int64) {a : Nat} (h : a ≠ o) : (upT M o v).1 a = M.1 a ∧ (upT M o v).2 a = M.2 a := ⟨rfl, if_neg h⟩
theorem upT_eq (M : Mem) (o : Nat) (v : Int64) : (upT M o v).2 o = v := if_pos rfl
theorem setO_ne (M : Mem) (o : Nat) (f : Nat → Int32) {a : Nat} (h : a ≠ o) : (setO M o f).1 a = M.1 a ∧ (setO M o f).2 a = M.2 a := ⟨if_neg h, rfl⟩
theorem setO_eq (M : Mem) (o : Nat) (f : Nat → Int32) : (setO M o f).1 o = f := if_pos rfl
theorem world_D (g : GG) (M M' : Mem) {A : Nat → Prop} (h : va_D A (world g M)) : va_D A (world g M') := by
  have key : ∀ (k : Nat) (q : Nat × va_E), (world g M')[k]? = some q → ∃ q0, (world g M)[k]? = some q0 ∧ q0.1 = q.1 := by
    intro k q hk
    by_cases h9 : k < 38
    · rw [world_get g M' h9] at hk
      cases hk
      exact ⟨_, world_get g M h9, rfl⟩
    · rw [List.getElem?_eq_none (by simp [world]; omega)] at hk
      cases hk
  refine ⟨fun i j p q hi hj hpq => ?_, fun k q hk => ?_⟩
  · obtain ⟨p0, h1, h2⟩ := key i p hi
    obtain ⟨q0, h3, h4⟩ := key j q hj
    exact h.1 i j p0 q0 h1 h3 (h2.trans (hpq.trans h4.symm))
  · obtain ⟨q0, h1, h2⟩ := key k q hk
    rw [← h2]
    exact h.2 k q0 h1
def NW : List Cond := [Cond.fieldLinkNest "MoorStones" 60 "MoorStones$Text" "length" "I" "MoorStones", Cond.fieldLinkNest "MoorStones" 16 "MoorStones$Reader" "text" "LMoorStones$Text;" "MoorStones", Cond.fieldLinkNest "MoorStones" 82 "MoorStones$Told" "wide" "I" "MoorStones", Cond.fieldLinkNest "MoorStones" 85 "MoorStones$Told" "high" "I" "MoorStones", Cond.fieldLinkNest "MoorStones$Reader" 77 "MoorStones$Told" "cells" "I" "MoorStones", Cond.fieldLinkNest "MoorStones" 224 "MoorStones$Told" "cells" "I" "MoorStones", Cond.fieldLinkNest "MoorStones$Now" 21 "MoorStones$Told" "bog" "I" "MoorStones", Cond.fieldLinkNest "MoorStones$Now" 28 "MoorStones$Told" "stones" "I" "MoorStones", Cond.fieldLinkNest "MoorStones$Now" 36 "MoorStones$Told" "sink" "I" "MoorStones", Cond.fieldLinkNest "MoorStones$Reader" 94 "MoorStones$Told" "sink" "I" "MoorStones", Cond.fieldLinkNest "MoorStones" 221 "MoorStones$Told" "sink" "I" "MoorStones", Cond.fieldLinkNest "MoorStones$Reader" 90 "MoorStones$Told" "sinkTold" "Z" "MoorStones", Cond.fieldLinkNest "MoorStones$Reader" 74 "MoorStones$Told" "walkers" "I" "MoorStones", Cond.fieldLinkNest "MoorStones" 149 "MoorStones$Told" "walkers" "I" "MoorStones", Cond.fieldLinkNest "MoorStones" 123 "MoorStones$Told" "from" "[I" "MoorStones", Cond.fieldLinkNest "MoorStones" 126 "MoorStones$Told" "to" "[I" "MoorStones", Cond.fieldLinkNest "MoorStones" 155 "MoorStones$Ways" "all" "I" "MoorStones", Cond.fieldLinkNest "MoorStones" 38 "MoorStones$Plans" "ways" "LMoorStones$Ways;" "MoorStones", Cond.fieldLinkNest "MoorStones" 138 "MoorStones$Now" "bog" "I" "MoorStones", Cond.fieldLinkNest "MoorStones" 158 "MoorStones$Now" "stones" "I" "MoorStones", Cond.fieldLinkNest "MoorStones" 109 "MoorStones$Now" "bears" "[I" "MoorStones", Cond.fieldLinkNest "MoorStones" 117 "MoorStones$Now" "layers" "[I" "MoorStones", Cond.fieldLinkNest "MoorStones" 129 "MoorStones$Now" "passed" "[I" "MoorStones", Cond.fieldLinkNest "MoorStones" 97 "MoorStones$Now" "isKept" "Z" "MoorStones", Cond.methodLinkNest "MoorStones$Plans" 11 ⟨"MoorStones$Ways", "<init>", "()V"⟩ "MoorStones", Cond.methodLinkNest "MoorStones$Text" 19 ⟨"MoorStones", "put", "([III)V"⟩ "MoorStones", Cond.methodLinkNest "MoorStones$Told" 48 ⟨"MoorStones", "put", "([III)V"⟩ "MoorStones", Cond.methodLinkNest "MoorStones$Told" 44 ⟨"MoorStones", "copyRow", "([I[I)V"⟩ "MoorStones", Cond.methodLinkNest "MoorStones$Now" 32 ⟨"MoorStones", "has", "(II)Z"⟩ "MoorStones", Cond.methodLinkNest "MoorStones$Now" 39 ⟨"MoorStones", "put", "([III)V"⟩ "MoorStones", Cond.methodLinkNest "MoorStones$Now" 47 ⟨"MoorStones", "at", "([II)I"⟩ "MoorStones", Cond.methodLinkNest "MoorStones$Ways" 28 ⟨"MoorStones", "has", "(II)Z"⟩ "MoorStones", Cond.methodLinkNest "MoorStones$Plans" 22 ⟨"MoorStones", "has", "(II)Z"⟩ "MoorStones", Cond.methodLinkNest "MoorStones$Plans" 54 ⟨"MoorStones", "at", "([II)I"⟩ "MoorStones", Cond.methodLinkNest "MoorStones$Plans" 50 ⟨"MoorStones", "put", "([III)V"⟩ "MoorStones", Cond.methodLinkNest "MoorStones$Now" 43 ⟨"MoorStones", "copyRow", "([I[I)V"⟩ "MoorStones"]
def isNest : Cond → Bool
  | .fieldLinkNest .. => true
  | .methodLinkNest .. => true
  | _ => false
theorem NW_nest : ∀ w ∈ NW, isNest w = true := List.all_eq_true.mp (by decide +kernel)
theorem nest_warm {w : Cond} (hw : isNest w = true) {s U : State} (hW : s.WarmedH U.vm) (h : va_Nw w s) : va_Nw w U := by
  cases w <;> first | exact va_Nw.warmF hW h | exact va_Nw.warmM hW h | cases hw
theorem nest_same {w : Cond} (hw : isNest w = true) {u U : State} (hv : u.vm = U.vm) (h : va_Nw w u) : va_Nw w U := by
  cases w <;> first | exact va_Nw.same rfl hv h | cases hw
def EnvG (g : GG) (U : State) : Prop := va_K (g_D g) vwCl [(g_cI g, .int), (g_cZ g, .boolean)] U ∧ (∀ w ∈ NW, va_Nw w U) ∧ vk_R "MoorStones$Reader" 40 "row" (g_aK g 0) U ∧ vk_R "MoorStones$Reader" 49 "walker" (g_aK g 1) U ∧ vk_R "MoorStones$Reader" 54 "sink" (g_aK g 2) U
def Str (g : GG) (U : State) (H : Heap) : Prop := vk_S 3 [3, 6, 4] [[114, 111, 119], [119, 97, 108, 107, 101, 114], [115, 105, 110, 107]] (g_aK g) (g_aV g) (AA g) U H ∧ va_Z "java/lang/String" "COMPACT_STRINGS" "Z" (.int 1) (AA g) U H ∧ va_Zq "jdk/internal/util/Preconditions" "SIOOBE_FORMATTER" "Ljava/util/function/BiFunction;" (AA g) U H
theorem EnvG.warm {g : GG} {s U : State} (hW : s.WarmedH U.vm) (h : EnvG g s) : EnvG g U :=
  ⟨va_K.moved hW.alike h.1, fun w hw => nest_warm (NW_nest w hw) hW (h.2.1 w hw), h.2.2.1.warm hW, h.2.2.2.1.warm hW, h.2.2.2.2.warm hW⟩
theorem EnvG.same {g : GG} {u U : State} (hv : u.vm = U.vm) (h : EnvG g u) : EnvG g U :=
  ⟨va_K.moved (by rw [hv]; exact Vm.Alike.refl U.vm) h.1, fun w hw => nest_same (NW_nest w hw) hv (h.2.1 w hw), h.2.2.1.same hv.symm, h.2.2.2.1.same hv.symm, h.2.2.2.2.same hv.symm⟩
theorem Str.moved {g : GG} {u U : State} {H : Heap} (hvm : u.vm.Alike U.vm) (h : Str g u H) : Str g U H := ⟨h.1.moved hvm, h.2.1.moved hvm, h.2.2.moved hvm⟩
theorem Str.kept {g : GG} {U : State} {H H1 : Heap} (h : Str g U H) (hq : ∀ a : Nat, a < H.size → ¬ AA g a → H1[a]? = H[a]?) : Str g U H1 := ⟨h.1.kept hq, h.2.1.kept hq, h.2.2.kept hq⟩
/-- a method: its name, code, locals, answer's type, and the frames and words that its calls need -/
abbrev MD : Type := MethodName × ByteArray × Nat × Option FieldType × Nat × Nat
def wsOf (μ : MD) : List Cond := .code μ.1 μ.2.1 μ.2.2.1 μ.2.2.2.1 :: wsL_law
def rmOf (μ : MD) : Room := { frames := μ.2.2.2.2.1, cells := 0, slots := 0, locals := μ.2.2.2.2.2 }
def PreM (g : GG) (M : Mem) (U : State) : Prop := va_P (g_D g) vwCl (world g M) U.heap ∧ EnvG g U ∧ va_D (AA g) (world g M) ∧ Str g U U.heap
def QQ (g : GG) (Q : Option Value → Mem → Prop) : Array Value → State → Outcome → State → Prop := fun _ st oc t => (∃ (r : Option Value) (M' : Mem), oc = .returned r ∧ Q r M' ∧ va_P (g_D g) vwCl (world g M') t.heap) ∧ va_F (AA g) st t
def Spec (g : GG) (μ : MD) (vs : List Value) (M : Mem) (Q : Option Value → Mem → Prop) : Prop := Met (g_l g) μ.1 (wsOf μ) (rmOf μ) (va_Pc vs (PreM g M)) (QQ g Q) 0 0 (AA g)
def Cx (g : GG) (μ : MD) (p : Program) (s : State) (m : MethodId) (args : Array Value) (meth : Method) (c : Code) : Prop :=
  p.tables.exec = Jvm.exec ∧ c.code = μ.2.1 ∧ meth.sig.returnType = μ.2.2.2.1 ∧ c.maxLocals = μ.2.2.1 ∧ s.vm.findClass μ.1.cls = some m.cls ∧ (∀ w ∈ wsL_law, w.before args s = true) ∧ meth.locks = false ∧ EnvG g s ∧ Str g s s.heap
def lh (lsA : Array Slot) (n : Nat) (ls : List (Option Value)) : Prop := lsA.size = n ∧ lv_wf lsA ∧ ∀ (i : Nat) (v : Value), ls[i]? = some (some v) → lsA[i]? = some (.val v)
/-- from the place pc of the method, with these locals and stack, over this memory, the method returns, and Q holds of its answer and the memory then -/
def wp (g : GG) (μ : MD) (pc : Nat) (ls : List (Option Value)) (st : List Value) (M : Mem) (Q : Option Value → Mem → Prop) : Prop :=
  ∀ (p : Program) (e : Env) (s : State) (m : MethodId) (args : Array Value) (below : List Frame) (meth : Method) (c : Code) (H : Heap) (locs : List Loc) (lsA : Array Slot),
    Cx g μ p s m args meth c → va_D (AA g) (world g M) → va_P (g_D g) vwCl (world g M) H → va_S (AA g) s.heap H locs → lh lsA μ.2.2.1 ls →
    W p (g_l g) e (rmOf μ) s m args below meth c H locs 0 0 (MQ below (QQ g Q) args s 0 0 (AA g)) (F0 m pc lsA st)
theorem wp_of {g : GG} {μ : MD} {pc : Nat} {ls : List (Option Value)} {st : List Value} {M : Mem} {Q : Option Value → Mem → Prop}
    (h : ∀ (p : Program) (e : Env) (s : State) (m : MethodId) (args : Array Value) (below : List Frame) (meth : Method) (c : Code) (H : Heap) (locs : List Loc) (lsA : Array Slot), Cx g μ p s m args meth c → va_D (AA g) (world g M) → va_P (g_D g) vwCl (world g M) H → va_S (AA g) s.heap H locs → lh lsA μ.2.2.1 ls →
    W p (g_l g) e (rmOf μ) s m args below meth c H locs 0 0 (MQ below (QQ g Q) args s 0 0 (AA g)) (F0 m pc lsA st)) : wp g μ pc ls st M Q := h
theorem wp_mono {g : GG} {μ : MD} {pc : Nat} {ls : List (Option Value)} {st : List Value} {M : Mem} {Q Q' : Option Value → Mem → Prop} (h : wp g μ pc ls st M Q') (hq : ∀ r M', Q' r M' → Q r M') : wp g μ pc ls st M Q := by
  intro p e s m args below meth c H locs lsA C D P S L T hT X
  obtain ⟨t, a, o, b1, b2, ⟨⟨r, M', h1, h2, h3⟩, h4⟩, h5⟩ := h p e s m args below meth c H locs lsA C D P S L T hT X
  exact ⟨t, a, o, b1, b2, ⟨⟨r, M', h1, hq r M' h2, h3⟩, h4⟩, h5⟩
/-! the locals with which a method begins -/
def entryL : List Value → List (Option Value)
  | [] => []
  | v :: vs => if v.category = 2 then some v :: none :: entryL vs else some v :: entryL vs
theorem entryL_args : ∀ (vs : List Value) (j i : Nat) (v : Value), (entryL vs)[i]? = some (some v) → (j + i, v) ∈ lv_args j vs
  | [], j, i, v, h => by simp [entryL] at h
  | w :: vs, j, i, v, h => by
    by_cases hc : w.category = 2
    · simp only [entryL, hc, if_true] at h
      simp only [lv_args, hc, if_true]
      match i, h with
      | 0, h =>
        simp at h
        subst h
        exact List.mem_cons_self
      | 1, h => simp at h
      | i + 2, h =>
        have h2 : (entryL vs)[i]? = some (some v) := by simpa using h
        have h3 := entryL_args vs (j + 2) i v h2
        refine List.mem_cons_of_mem _ ?_
        rw [show j + (i + 2) = j + 2 + i by omega]
        exact h3
    · simp only [entryL, if_neg hc] at h
      simp only [lv_args, if_neg hc]
      match i, h with
      | 0, h =>
        simp at h
        subst h
        exact List.mem_cons_self
      | i + 1, h =>
        have h2 : (entryL vs)[i]? = some (some v) := by simpa using h
        have h3 := entryL_args vs (j + 1) i v h2
        refine List.mem_cons_of_mem _ ?_
        rw [show j + (i + 1) = j + 1 + i by omega]
        exact h3
theorem lh_of {lsA : Array Slot} {n : Nat} {vs : List Value} {ls : List (Option Value)} (h : lv_has lsA n (lv_args 0 vs)) (k : Nat) (he : entryL vs ++ List.replicate k none = ls) : lh lsA n ls := by
  refine ⟨h.1, h.2.1, fun i v hi => ?_⟩
  subst he
  by_cases hl : i < (entryL vs).length
  · rw [List.getElem?_append_left hl] at hi
    have := entryL_args vs 0 i v hi
    rw [Nat.zero_add] at this
    exact h.2.2 _ this
  · rw [List.getElem?_append_right (by omega)] at hi
    rw [List.getElem?_replicate] at hi
    split at hi <;> simp at hi
theorem spec_of_wp {g : GG} {μ : MD} {vs : List Value} {M : Mem} {Q : Option Value → Mem → Prop} {ls : List (Option Value)} (hp : plainName μ.1.cls = true) (hn : (lg_sl vs).length ≤ μ.2.2.1) (k : Nat) (hls : entryL vs ++ List.replicate k none = ls) (h : wp g μ 0 ls [] M Q) : Spec g μ vs M Q := by
  refine Met.ofW (cc := μ.2.1) (maxL := μ.2.2.1) (ret := μ.2.2.2.1) hp rfl ?_
  intro p e s m args below meth c s₁ B hml hv
  obtain ⟨rfl, hP, hE, hD, hS⟩ := hv
  have hts := atoms_spec (ws := wsOf μ) B.pre
  rw [lg_entry_eq]
  exact h p e s m _ below meth c s.heap [] _ ⟨B.exec, B.bytes, B.returns, hml, findClass_of_methodNamed B.named, fun w hw => hts w (List.mem_cons_of_mem _ hw), B.notSynchronized, hE, hS⟩ hD hP va_S.rf (lh_of (lv_entry vs hn) k hls)
theorem wsL_good : ∀ w ∈ wsL_law, goodWord w = true := List.all_eq_true.mp (by decide +kernel)
theorem wsOf_good {μ : MD} (h : Cond.code μ.1 μ.2.1 μ.2.2.1 μ.2.2.2.1 ∈ wsL_law) : GoodIn wsL_law (wsOf μ) := by
  intro w hw
  rcases List.mem_cons.mp hw with rfl | hw
  · exact ⟨h, good_of_word (wsL_good _ h)⟩
  · exact ⟨hw, good_of_word (wsL_good w hw)⟩
/-- shifts as Java has them -/
def shl (x y : Int32) : Int32 := x <<< (y &&& 31)
def sshr (x y : Int32) : Int32 := x >>> (y &&& 31)
def ushr (x y : Int32) : Int32 := (x.toUInt32 >>> (y.toUInt32 &&& Int32.toUInt32 31)).toInt32

section WPR
variable {g : GG} {μ : MD} {pc pc' : Nat} {ls : List (Option Value)} {st : List Value} {M : Mem} {Q : Option Value → Mem → Prop}
theorem wp_iconst {n : Int} (v : Int32) (d : decode μ.2.1 pc = .ok (.iconst n, 1)) (hpc : pc' = pc + 1) (hv : Int32.ofInt n = v) (k : wp g μ pc' ls (.int v :: st) M Q) : wp g μ pc ls (st) M Q := by
  subst hpc
  intro p e s m args below meth c H locs lsA C D P S L
  exact lv_iconst C.1 C.2.1 d hv (k p e s m args below meth c H locs lsA C D P S L)
theorem wp_bipush {n : Int} (v : Int32) (d : decode μ.2.1 pc = .ok (.bipush n, 2)) (hpc : pc' = pc + 2) (hv : (Int8.ofInt n).toInt32 = v) (k : wp g μ pc' ls (.int v :: st) M Q) : wp g μ pc ls (st) M Q := by
  subst hpc
  intro p e s m args below meth c H locs lsA C D P S L
  exact lv_bipush C.1 C.2.1 d hv (k p e s m args below meth c H locs lsA C D P S L)
theorem wp_sipush {n : Int} (v : Int32) (d : decode μ.2.1 pc = .ok (.sipush n, 3)) (hpc : pc' = pc + 3) (hv : (Int16.ofInt n).toInt32 = v) (k : wp g μ pc' ls (.int v :: st) M Q) : wp g μ pc ls (st) M Q := by
  subst hpc
  intro p e s m args below meth c H locs lsA C D P S L
  exact lv_sipush C.1 C.2.1 d hv (k p e s m args below meth c H locs lsA C D P S L)
theorem wp_lconst {n : Fin 2} (v : Int64) (d : decode μ.2.1 pc = .ok (.lconst n, 1)) (hpc : pc' = pc + 1) (hv : Int64.ofNat n = v) (k : wp g μ pc' ls (.long v :: st) M Q) : wp g μ pc ls (st) M Q := by
  subst hpc
  intro p e s m args below meth c H locs lsA C D P S L
  exact lv_lconst C.1 C.2.1 d hv (k p e s m args below meth c H locs lsA C D P S L)
theorem wp_ldc {idx : Nat} (v : Int32) (d : decode μ.2.1 pc = .ok (.ldc idx, 2)) (hpc : pc' = pc + 2) (hm : Cond.constant μ.1.cls idx v ∈ wsL_law) (k : wp g μ pc' ls (.int v :: st) M Q) : wp g μ pc ls (st) M Q := by
  subst hpc
  intro p e s m args below meth c H locs lsA C D P S L
  exact lv_ldc C.1 C.2.1 C.2.2.2.2.1 (C.2.2.2.2.2.1 _ hm) d (k p e s m args below meth c H locs lsA C D P S L)
theorem wp_ldc2 {idx : Nat} (v : Int64) (d : decode μ.2.1 pc = .ok (.ldc2_w idx, 3)) (hpc : pc' = pc + 3) (hm : Cond.constantLong μ.1.cls idx v ∈ wsL_law) (k : wp g μ pc' ls (.long v :: st) M Q) : wp g μ pc ls (st) M Q := by
  subst hpc
  intro p e s m args below meth c H locs lsA C D P S L
  exact lv_ldc2 C.1 C.2.1 C.2.2.2.2.1 (C.2.2.2.2.2.1 _ hm) d (k p e s m args below meth c H locs lsA C D P S L)
theorem wp_iload_n {i : Fin 4} {x : Int32} (d : decode μ.2.1 pc = .ok (.iload_n i, 1)) (hpc : pc' = pc + 1) (hl : ls[(i : Nat)]? = some (some (.int x))) (k : wp g μ pc' ls (.int x :: st) M Q) : wp g μ pc ls (st) M Q := by
  subst hpc
  intro p e s m args below meth c H locs lsA C D P S L
  exact lv_iload_n C.1 C.2.1 d rfl (L.2.2 _ _ hl) (k p e s m args below meth c H locs lsA C D P S L)
theorem wp_iload {i : Nat} {x : Int32} (d : decode μ.2.1 pc = .ok (.iload i, 2)) (hpc : pc' = pc + 2) (hl : ls[i]? = some (some (.int x))) (k : wp g μ pc' ls (.int x :: st) M Q) : wp g μ pc ls (st) M Q := by
  subst hpc
  intro p e s m args below meth c H locs lsA C D P S L
  exact lv_iload C.1 C.2.1 d (L.2.2 _ _ hl) (k p e s m args below meth c H locs lsA C D P S L)
theorem wp_lload_n {i : Fin 4} {x : Int64} (d : decode μ.2.1 pc = .ok (.lload_n i, 1)) (hpc : pc' = pc + 1) (hl : ls[(i : Nat)]? = some (some (.long x))) (k : wp g μ pc' ls (.long x :: st) M Q) : wp g μ pc ls (st) M Q := by
  subst hpc
  intro p e s m args below meth c H locs lsA C D P S L
  exact lv_lload_n C.1 C.2.1 d rfl (L.2.2 _ _ hl) (k p e s m args below meth c H locs lsA C D P S L)
theorem wp_aload_n {i : Fin 4} {v : Value} (d : decode μ.2.1 pc = .ok (.aload_n i, 1)) (hpc : pc' = pc + 1) (hl : ls[(i : Nat)]? = some (some v)) (hr : ∃ a : Nat, v = .ref a) (k : wp g μ pc' ls (v :: st) M Q) : wp g μ pc ls st M Q := by
  obtain ⟨a, rfl⟩ := hr
  subst hpc
  intro p e s m args below meth c H locs lsA C D P S L
  exact lv_aload_n C.1 C.2.1 d rfl (L.2.2 _ _ hl) (k p e s m args below meth c H locs lsA C D P S L)
theorem wp_aload {i : Nat} {v : Value} (d : decode μ.2.1 pc = .ok (.aload i, 2)) (hpc : pc' = pc + 2) (hl : ls[i]? = some (some v)) (hr : ∃ a : Nat, v = .ref a) (k : wp g μ pc' ls (v :: st) M Q) : wp g μ pc ls st M Q := by
  obtain ⟨a, rfl⟩ := hr
  subst hpc
  intro p e s m args below meth c H locs lsA C D P S L
  exact lv_aload C.1 C.2.1 d (L.2.2 _ _ hl) (k p e s m args below meth c H locs lsA C D P S L)
theorem wp_iadd {x y : Int32} (d : decode μ.2.1 pc = .ok (.iadd, 1)) (hpc : pc' = pc + 1)  (k : wp g μ pc' ls (.int (x + y) :: st) M Q) : wp g μ pc ls (.int y :: .int x :: st) M Q := by
  subst hpc
  intro p e s m args below meth c H locs lsA C D P S L
  exact lv_iadd C.1 C.2.1 d (k p e s m args below meth c H locs lsA C D P S L)
theorem wp_isub {x y : Int32} (d : decode μ.2.1 pc = .ok (.isub, 1)) (hpc : pc' = pc + 1)  (k : wp g μ pc' ls (.int (x - y) :: st) M Q) : wp g μ pc ls (.int y :: .int x :: st) M Q := by
  subst hpc
  intro p e s m args below meth c H locs lsA C D P S L
  exact lv_isub C.1 C.2.1 d (k p e s m args below meth c H locs lsA C D P S L)
theorem wp_imul {x y : Int32} (d : decode μ.2.1 pc = .ok (.imul, 1)) (hpc : pc' = pc + 1)  (k : wp g μ pc' ls (.int (x * y) :: st) M Q) : wp g μ pc ls (.int y :: .int x :: st) M Q := by
  subst hpc
  intro p e s m args below meth c H locs lsA C D P S L
  exact lv_imul C.1 C.2.1 d (k p e s m args below meth c H locs lsA C D P S L)
theorem wp_iand {x y : Int32} (d : decode μ.2.1 pc = .ok (.iand, 1)) (hpc : pc' = pc + 1)  (k : wp g μ pc' ls (.int (x &&& y) :: st) M Q) : wp g μ pc ls (.int y :: .int x :: st) M Q := by
  subst hpc
  intro p e s m args below meth c H locs lsA C D P S L
  exact lv_iand C.1 C.2.1 d (k p e s m args below meth c H locs lsA C D P S L)
theorem wp_ior {x y : Int32} (d : decode μ.2.1 pc = .ok (.ior, 1)) (hpc : pc' = pc + 1)  (k : wp g μ pc' ls (.int (x ||| y) :: st) M Q) : wp g μ pc ls (.int y :: .int x :: st) M Q := by
  subst hpc
  intro p e s m args below meth c H locs lsA C D P S L
  exact lv_ior C.1 C.2.1 d (k p e s m args below meth c H locs lsA C D P S L)
theorem wp_ixor {x y : Int32} (d : decode μ.2.1 pc = .ok (.ixor, 1)) (hpc : pc' = pc + 1)  (k : wp g μ pc' ls (.int (x ^^^ y) :: st) M Q) : wp g μ pc ls (.int y :: .int x :: st) M Q := by
  subst hpc
  intro p e s m args below meth c H locs lsA C D P S L
  exact lv_ixor C.1 C.2.1 d (k p e s m args below meth c H locs lsA C D P S L)
theorem wp_ishl {x y : Int32} (d : decode μ.2.1 pc = .ok (.ishl, 1)) (hpc : pc' = pc + 1)  (k : wp g μ pc' ls (.int (shl x y) :: st) M Q) : wp g μ pc ls (.int y :: .int x :: st) M Q := by
  subst hpc
  intro p e s m args below meth c H locs lsA C D P S L
  exact lv_ishl C.1 C.2.1 d (k p e s m args below meth c H locs lsA C D P S L)
theorem wp_ishr {x y : Int32} (d : decode μ.2.1 pc = .ok (.ishr, 1)) (hpc : pc' = pc + 1)  (k : wp g μ pc' ls (.int (sshr x y) :: st) M Q) : wp g μ pc ls (.int y :: .int x :: st) M Q := by
  subst hpc
  intro p e s m args below meth c H locs lsA C D P S L
  exact lv_ishr C.1 C.2.1 d (k p e s m args below meth c H locs lsA C D P S L)
theorem wp_idiv {x y : Int32} (d : decode μ.2.1 pc = .ok (.idiv, 1)) (hpc : pc' = pc + 1) (hne : ¬ y = 0) (k : wp g μ pc' ls (.int (x / y) :: st) M Q) : wp g μ pc ls (.int y :: .int x :: st) M Q := by
  subst hpc
  intro p e s m args below meth c H locs lsA C D P S L
  exact lv_idiv C.1 C.2.1 d hne (k p e s m args below meth c H locs lsA C D P S L)
theorem wp_irem {x y : Int32} (d : decode μ.2.1 pc = .ok (.irem, 1)) (hpc : pc' = pc + 1) (hne : ¬ y = 0) (k : wp g μ pc' ls (.int (x - x / y * y) :: st) M Q) : wp g μ pc ls (.int y :: .int x :: st) M Q := by
  subst hpc
  intro p e s m args below meth c H locs lsA C D P S L
  exact lv_irem C.1 C.2.1 d hne (k p e s m args below meth c H locs lsA C D P S L)
theorem wp_iushr {x y : Int32} (d : decode μ.2.1 pc = .ok (.iushr, 1)) (hpc : pc' = pc + 1)  (k : wp g μ pc' ls (.int (ushr x y) :: st) M Q) : wp g μ pc ls (.int y :: .int x :: st) M Q := by
  subst hpc
  intro p e s m args below meth c H locs lsA C D P S L
  exact lv_iushr C.1 C.2.1 d rfl (k p e s m args below meth c H locs lsA C D P S L)
theorem wp_ineg {x : Int32} (d : decode μ.2.1 pc = .ok (.ineg, 1)) (hpc : pc' = pc + 1)  (k : wp g μ pc' ls (.int (-x) :: st) M Q) : wp g μ pc ls (.int x :: st) M Q := by
  subst hpc
  intro p e s m args below meth c H locs lsA C D P S L
  exact lv_ineg C.1 C.2.1 d (k p e s m args below meth c H locs lsA C D P S L)
theorem wp_ladd {x y : Int64} (d : decode μ.2.1 pc = .ok (.ladd, 1)) (hpc : pc' = pc + 1)  (k : wp g μ pc' ls (.long (x + y) :: st) M Q) : wp g μ pc ls (.long y :: .long x :: st) M Q := by
  subst hpc
  intro p e s m args below meth c H locs lsA C D P S L
  exact lv_ladd C.1 C.2.1 d (k p e s m args below meth c H locs lsA C D P S L)
theorem wp_lmul {x y : Int64} (d : decode μ.2.1 pc = .ok (.lmul, 1)) (hpc : pc' = pc + 1)  (k : wp g μ pc' ls (.long (x * y) :: st) M Q) : wp g μ pc ls (.long y :: .long x :: st) M Q := by
  subst hpc
  intro p e s m args below meth c H locs lsA C D P S L
  exact lv_lmul C.1 C.2.1 d (k p e s m args below meth c H locs lsA C D P S L)
theorem wp_land {x y : Int64} (d : decode μ.2.1 pc = .ok (.land, 1)) (hpc : pc' = pc + 1)  (k : wp g μ pc' ls (.long (x &&& y) :: st) M Q) : wp g μ pc ls (.long y :: .long x :: st) M Q := by
  subst hpc
  intro p e s m args below meth c H locs lsA C D P S L
  exact lv_land C.1 C.2.1 d (k p e s m args below meth c H locs lsA C D P S L)
theorem wp_lor {x y : Int64} (d : decode μ.2.1 pc = .ok (.lor, 1)) (hpc : pc' = pc + 1)  (k : wp g μ pc' ls (.long (x ||| y) :: st) M Q) : wp g μ pc ls (.long y :: .long x :: st) M Q := by
  subst hpc
  intro p e s m args below meth c H locs lsA C D P S L
  exact lv_lor C.1 C.2.1 d (k p e s m args below meth c H locs lsA C D P S L)
theorem wp_lushr {x : Int64} {y : Int32} (d : decode μ.2.1 pc = .ok (.lushr, 1)) (hpc : pc' = pc + 1)  (k : wp g μ pc' ls (.long ((x.toUInt64 >>> (y.toInt64.toUInt64 &&& Int64.toUInt64 63)).toInt64) :: st) M Q) : wp g μ pc ls (.int y :: .long x :: st) M Q := by
  subst hpc
  intro p e s m args below meth c H locs lsA C D P S L
  exact lv_lushr C.1 C.2.1 d rfl (k p e s m args below meth c H locs lsA C D P S L)
theorem wp_lshr {x : Int64} {y : Int32} (d : decode μ.2.1 pc = .ok (.lshr, 1)) (hpc : pc' = pc + 1)  (k : wp g μ pc' ls (.long (x >>> (y.toInt64 &&& 63)) :: st) M Q) : wp g μ pc ls (.int y :: .long x :: st) M Q := by
  subst hpc
  intro p e s m args below meth c H locs lsA C D P S L
  exact lv_lshr C.1 C.2.1 d rfl (k p e s m args below meth c H locs lsA C D P S L)
theorem wp_lshl {x : Int64} {y : Int32} (d : decode μ.2.1 pc = .ok (.lshl, 1)) (hpc : pc' = pc + 1)  (k : wp g μ pc' ls (.long (x <<< (y.toInt64 &&& 63)) :: st) M Q) : wp g μ pc ls (.int y :: .long x :: st) M Q := by
  subst hpc
  intro p e s m args below meth c H locs lsA C D P S L
  exact lv_lshl C.1 C.2.1 d rfl (k p e s m args below meth c H locs lsA C D P S L)
theorem wp_i2l {x : Int32} (d : decode μ.2.1 pc = .ok (.i2l, 1)) (hpc : pc' = pc + 1)  (k : wp g μ pc' ls (.long x.toInt64 :: st) M Q) : wp g μ pc ls (.int x :: st) M Q := by
  subst hpc
  intro p e s m args below meth c H locs lsA C D P S L
  exact lv_i2l C.1 C.2.1 d rfl (k p e s m args below meth c H locs lsA C D P S L)
theorem wp_l2i {x : Int64} (d : decode μ.2.1 pc = .ok (.l2i, 1)) (hpc : pc' = pc + 1)  (k : wp g μ pc' ls (.int x.toInt32 :: st) M Q) : wp g μ pc ls (.long x :: st) M Q := by
  subst hpc
  intro p e s m args below meth c H locs lsA C D P S L
  exact lv_l2i C.1 C.2.1 d rfl (k p e s m args below meth c H locs lsA C D P S L)
theorem wp_lcmp {x y : Int64} (d : decode μ.2.1 pc = .ok (.lcmp, 1)) (hpc : pc' = pc + 1)  (k : wp g μ pc' ls (.int (lg_cmp x y) :: st) M Q) : wp g μ pc ls (.long y :: .long x :: st) M Q := by
  subst hpc
  intro p e s m args below meth c H locs lsA C D P S L
  exact W.lcmp C.1 C.2.1 d (k p e s m args below meth c H locs lsA C D P S L)
theorem wp_dup {v : Value} (d : decode μ.2.1 pc = .ok (.dup, 1)) (hpc : pc' = pc + 1) (hc : v.category = 1) (k : wp g μ pc' ls (v :: v :: st) M Q) : wp g μ pc ls (v :: st) M Q := by
  subst hpc
  intro p e s m args below meth c H locs lsA C D P S L
  exact lv_dup C.1 C.2.1 d hc (k p e s m args below meth c H locs lsA C D P S L)
theorem wp_dup2 {v w : Value} (d : decode μ.2.1 pc = .ok (.dup2, 1)) (hpc : pc' = pc + 1) (hc : v.category = 1) (hc2 : w.category = 1) (k : wp g μ pc' ls (v :: w :: v :: w :: st) M Q) : wp g μ pc ls (v :: w :: st) M Q := by
  subst hpc
  intro p e s m args below meth c H locs lsA C D P S L
  exact lv_dup2_11 C.1 C.2.1 d hc hc2 (k p e s m args below meth c H locs lsA C D P S L)
theorem wp_pop {v : Value} (d : decode μ.2.1 pc = .ok (.pop, 1)) (hpc : pc' = pc + 1) (hc : v.category = 1) (k : wp g μ pc' ls (st) M Q) : wp g μ pc ls (v :: st) M Q := by
  subst hpc
  intro p e s m args below meth c H locs lsA C D P S L
  exact lv_pop C.1 C.2.1 d hc (k p e s m args below meth c H locs lsA C D P S L)
def okst (ls : List (Option Value)) (i : Nat) : Bool := match i with
  | 0 => true
  | j + 1 => match ls[j]? with
    | some (some v) => v.category != 2
    | _ => true
theorem lh_set {lsA ls' : Array Slot} {n i : Nat} {ls : List (Option Value)} {v : Value} (L : lh lsA n ls) (hs : storeLocals lsA i v = some ls') (hc : v.category = 1) (hi : i < n) (ho : okst ls i = true) : lh ls' n (ls.set i (some v)) := by
  have h0 : lv_has lsA n (ls.zipIdx.filterMap (fun q => q.1.map (fun w => (q.2, w)))) := by
    refine ⟨L.1, L.2.1, fun q hq => ?_⟩
    obtain ⟨⟨a, j⟩, h1, h2⟩ := List.mem_filterMap.mp hq
    have h3 := List.mem_zipIdx_iff_getElem?.mp h1
    cases a with
    | none => simp at h2
    | some w =>
      simp at h2
      subst h2
      exact L.2.2 _ _ h3
  obtain ⟨ls2, e1, e2⟩ := lv_store1 h0 hi hc
  rw [hs] at e1
  cases e1
  refine ⟨e2.1, e2.2.1, fun j w hj => ?_⟩
  by_cases hji : j = i
  · subst hji
    rw [List.getElem?_set] at hj
    split at hj
    · split at hj
      · cases hj
        exact e2.2.2 _ List.mem_cons_self
      · cases hj
    · rename_i h9; exact absurd rfl h9
  · rw [List.getElem?_set_ne (Ne.symm hji)] at hj
    refine e2.2.2 (j, w) (List.mem_cons_of_mem _ (List.mem_filter.mpr ⟨List.mem_filterMap.mpr ⟨(some w, j), List.mem_zipIdx_iff_getElem?.mpr hj, rfl⟩, ?_⟩))
    have : ¬ (j + 1 = i ∧ w.category = 2) := by
      rintro ⟨h8, h9⟩
      subst h8
      simp [okst, hj, h9] at ho
    by_cases h7 : j + 1 = i
    · have h6 : w.category ≠ 2 := fun h => this ⟨h7, h⟩
      simp [hji, h7, h6]
    · simp [hji, h7]
theorem lh_list {lsA : Array Slot} {n : Nat} {ls : List (Option Value)} (L : lh lsA n ls) : lv_has lsA n (ls.zipIdx.filterMap (fun q => q.1.map (fun w => (q.2, w)))) := by
  refine ⟨L.1, L.2.1, fun q hq => ?_⟩
  obtain ⟨⟨a, j⟩, h1, h2⟩ := List.mem_filterMap.mp hq
  have h3 := List.mem_zipIdx_iff_getElem?.mp h1
  cases a with
  | none => simp at h2
  | some w =>
    simp at h2
    subst h2
    exact L.2.2 _ _ h3
theorem lh_fil {lsA ls' : Array Slot} {n i : Nat} {ls : List (Option Value)} {v : Value} (h : lv_has ls' n ((i, v) :: (ls.zipIdx.filterMap (fun q => q.1.map (fun w => (q.2, w)))).filter (fun q => !(q.1 == i) && !(q.1 + 1 == i && q.2.category == 2)))) (ho : okst ls i = true) : lh ls' n (ls.set i (some v)) := by
  refine ⟨h.1, h.2.1, fun j w hj => ?_⟩
  by_cases hji : j = i
  · subst hji
    rw [List.getElem?_set] at hj
    split at hj
    · split at hj
      · cases hj
        exact h.2.2 _ List.mem_cons_self
      · cases hj
    · rename_i h9; exact absurd rfl h9
  · rw [List.getElem?_set_ne (Ne.symm hji)] at hj
    refine h.2.2 (j, w) (List.mem_cons_of_mem _ (List.mem_filter.mpr ⟨List.mem_filterMap.mpr ⟨(some w, j), List.mem_zipIdx_iff_getElem?.mpr hj, rfl⟩, ?_⟩))
    have : ¬ (j + 1 = i ∧ w.category = 2) := by
      rintro ⟨h8, h9⟩
      subst h8
      simp [okst, hj, h9] at ho
    by_cases h7 : j + 1 = i
    · have h6 : w.category ≠ 2 := fun h => this ⟨h7, h⟩
      simp [hji, h7, h6]
    · simp [hji, h7]
theorem wp_istore_n {i : Fin 4} {x : Int32} (d : decode μ.2.1 pc = .ok (.istore_n i, 1)) (hpc : pc' = pc + 1) (hi : (i : Nat) < μ.2.2.1) (ho : okst ls (i : Nat) = true) (k : wp g μ pc' (ls.set (i : Nat) (some (.int x))) st M Q) : wp g μ pc ls (.int x :: st) M Q := by
  subst hpc
  intro p e s m args below meth c H locs lsA C D P S L
  exact lv_istore_n C.1 C.2.1 d rfl (lh_list L) hi rfl (fun ls' h => k p e s m args below meth c H locs ls' C D P S (lh_fil (lsA := lsA) h ho))
theorem wp_istore {i : Nat} {x : Int32} (d : decode μ.2.1 pc = .ok (.istore i, 2)) (hpc : pc' = pc + 2) (hi : i < μ.2.2.1) (ho : okst ls i = true) (k : wp g μ pc' (ls.set i (some (.int x))) st M Q) : wp g μ pc ls (.int x :: st) M Q := by
  subst hpc
  intro p e s m args below meth c H locs lsA C D P S L
  exact lv_istore C.1 C.2.1 d (lh_list L) hi rfl (fun ls' h => k p e s m args below meth c H locs ls' C D P S (lh_fil (lsA := lsA) h ho))
theorem wp_astore_n {i : Fin 4} {x : Nat} (d : decode μ.2.1 pc = .ok (.astore_n i, 1)) (hpc : pc' = pc + 1) (hi : (i : Nat) < μ.2.2.1) (ho : okst ls (i : Nat) = true) (k : wp g μ pc' (ls.set (i : Nat) (some (.ref x))) st M Q) : wp g μ pc ls (.ref x :: st) M Q := by
  subst hpc
  intro p e s m args below meth c H locs lsA C D P S L
  exact lv_astore_n C.1 C.2.1 d rfl (lh_list L) hi rfl (fun ls' h => k p e s m args below meth c H locs ls' C D P S (lh_fil (lsA := lsA) h ho))
theorem wp_astore {i : Nat} {x : Nat} (d : decode μ.2.1 pc = .ok (.astore i, 2)) (hpc : pc' = pc + 2) (hi : i < μ.2.2.1) (ho : okst ls i = true) (k : wp g μ pc' (ls.set i (some (.ref x))) st M Q) : wp g μ pc ls (.ref x :: st) M Q := by
  subst hpc
  intro p e s m args below meth c H locs lsA C D P S L
  exact lv_astore C.1 C.2.1 d (lh_list L) hi rfl (fun ls' h => k p e s m args below meth c H locs ls' C D P S (lh_fil (lsA := lsA) h ho))
theorem wp_iinc {i : Nat} {n : Int} {x : Int32} (v : Int32) (d : decode μ.2.1 pc = .ok (.iinc i n, 3)) (hpc : pc' = pc + 3) (hi : i < μ.2.2.1) (ho : okst ls i = true) (hl : ls[i]? = some (some (.int x))) (hv : x + Int32.ofInt n = v) (k : wp g μ pc' (ls.set i (some (.int v))) st M Q) : wp g μ pc ls st M Q := by
  subst hpc
  intro p e s m args below meth c H locs lsA C D P S L
  obtain ⟨q, hq⟩ := List.getElem?_of_mem (List.mem_filterMap.mpr ⟨(some (Value.int x), i), List.mem_zipIdx_iff_getElem?.mpr hl, rfl⟩ : (i, Value.int x) ∈ ls.zipIdx.filterMap (fun q => q.1.map (fun w => (q.2, w))))
  exact lv_iinc C.1 C.2.1 d (lh_list L) hq hv hi rfl (fun ls' h => k p e s m args below meth c H locs ls' C D P S (lh_fil (lsA := lsA) h ho))
theorem wp_ist0 {a0 : Option Value} {x : Int32} (d : decode μ.2.1 pc = .ok (.istore_n 0, 1)) (hpc : pc' = pc + 1) (hi : 0 < μ.2.2.1) (ho : okst (a0 :: ls) 0 = true) (k : wp g μ pc' (some (.int x) :: ls) st M Q) : wp g μ pc (a0 :: ls) (.int x :: st) M Q := wp_istore_n d hpc hi ho k
theorem wp_ast0 {a0 : Option Value} {v : Value} (d : decode μ.2.1 pc = .ok (.astore_n 0, 1)) (hpc : pc' = pc + 1) (hi : 0 < μ.2.2.1) (ho : okst (a0 :: ls) 0 = true) (hr : ∃ a : Nat, v = .ref a) (k : wp g μ pc' (some (v) :: ls) st M Q) : wp g μ pc (a0 :: ls) (v :: st) M Q := by
  obtain ⟨a, rfl⟩ := hr
  exact wp_astore_n d hpc hi ho k
theorem wp_inc0  {n : Int} {x : Int32} (v : Int32) (d : decode μ.2.1 pc = .ok (.iinc 0 n, 3)) (hpc : pc' = pc + 3) (hi : 0 < μ.2.2.1) (ho : okst (some (.int x) :: ls) 0 = true) (hv : x + Int32.ofInt n = v) (k : wp g μ pc' (some (.int v) :: ls) st M Q) : wp g μ pc (some (.int x) :: ls) st M Q := wp_iinc v d hpc hi ho rfl hv k
theorem wp_ist1 {a0 a1 : Option Value} {x : Int32} (d : decode μ.2.1 pc = .ok (.istore_n 1, 1)) (hpc : pc' = pc + 1) (hi : 1 < μ.2.2.1) (ho : okst (a0 :: a1 :: ls) 1 = true) (k : wp g μ pc' (a0 :: some (.int x) :: ls) st M Q) : wp g μ pc (a0 :: a1 :: ls) (.int x :: st) M Q := wp_istore_n d hpc hi ho k
theorem wp_ast1 {a0 a1 : Option Value} {v : Value} (d : decode μ.2.1 pc = .ok (.astore_n 1, 1)) (hpc : pc' = pc + 1) (hi : 1 < μ.2.2.1) (ho : okst (a0 :: a1 :: ls) 1 = true) (hr : ∃ a : Nat, v = .ref a) (k : wp g μ pc' (a0 :: some (v) :: ls) st M Q) : wp g μ pc (a0 :: a1 :: ls) (v :: st) M Q := by
  obtain ⟨a, rfl⟩ := hr
  exact wp_astore_n d hpc hi ho k
theorem wp_inc1 {a0 : Option Value} {n : Int} {x : Int32} (v : Int32) (d : decode μ.2.1 pc = .ok (.iinc 1 n, 3)) (hpc : pc' = pc + 3) (hi : 1 < μ.2.2.1) (ho : okst (a0 :: some (.int x) :: ls) 1 = true) (hv : x + Int32.ofInt n = v) (k : wp g μ pc' (a0 :: some (.int v) :: ls) st M Q) : wp g μ pc (a0 :: some (.int x) :: ls) st M Q := wp_iinc v d hpc hi ho rfl hv k
theorem wp_ist2 {a0 a1 a2 : Option Value} {x : Int32} (d : decode μ.2.1 pc = .ok (.istore_n 2, 1)) (hpc : pc' = pc + 1) (hi : 2 < μ.2.2.1) (ho : okst (a0 :: a1 :: a2 :: ls) 2 = true) (k : wp g μ pc' (a0 :: a1 :: some (.int x) :: ls) st M Q) : wp g μ pc (a0 :: a1 :: a2 :: ls) (.int x :: st) M Q := wp_istore_n d hpc hi ho k
theorem wp_ast2 {a0 a1 a2 : Option Value} {v : Value} (d : decode μ.2.1 pc = .ok (.astore_n 2, 1)) (hpc : pc' = pc + 1) (hi : 2 < μ.2.2.1) (ho : okst (a0 :: a1 :: a2 :: ls) 2 = true) (hr : ∃ a : Nat, v = .ref a) (k : wp g μ pc' (a0 :: a1 :: some (v) :: ls) st M Q) : wp g μ pc (a0 :: a1 :: a2 :: ls) (v :: st) M Q := by
  obtain ⟨a, rfl⟩ := hr
  exact wp_astore_n d hpc hi ho k
theorem wp_inc2 {a0 a1 : Option Value} {n : Int} {x : Int32} (v : Int32) (d : decode μ.2.1 pc = .ok (.iinc 2 n, 3)) (hpc : pc' = pc + 3) (hi : 2 < μ.2.2.1) (ho : okst (a0 :: a1 :: some (.int x) :: ls) 2 = true) (hv : x + Int32.ofInt n = v) (k : wp g μ pc' (a0 :: a1 :: some (.int v) :: ls) st M Q) : wp g μ pc (a0 :: a1 :: some (.int x) :: ls) st M Q := wp_iinc v d hpc hi ho rfl hv k
theorem wp_ist3 {a0 a1 a2 a3 : Option Value} {x : Int32} (d : decode μ.2.1 pc = .ok (.istore_n 3, 1)) (hpc : pc' = pc + 1) (hi : 3 < μ.2.2.1) (ho : okst (a0 :: a1 :: a2 :: a3 :: ls) 3 = true) (k : wp g μ pc' (a0 :: a1 :: a2 :: some (.int x) :: ls) st M Q) : wp g μ pc (a0 :: a1 :: a2 :: a3 :: ls) (.int x :: st) M Q := wp_istore_n d hpc hi ho k
theorem wp_ast3 {a0 a1 a2 a3 : Option Value} {v : Value} (d : decode μ.2.1 pc = .ok (.astore_n 3, 1)) (hpc : pc' = pc + 1) (hi : 3 < μ.2.2.1) (ho : okst (a0 :: a1 :: a2 :: a3 :: ls) 3 = true) (hr : ∃ a : Nat, v = .ref a) (k : wp g μ pc' (a0 :: a1 :: a2 :: some (v) :: ls) st M Q) : wp g μ pc (a0 :: a1 :: a2 :: a3 :: ls) (v :: st) M Q := by
  obtain ⟨a, rfl⟩ := hr
  exact wp_astore_n d hpc hi ho k
theorem wp_inc3 {a0 a1 a2 : Option Value} {n : Int} {x : Int32} (v : Int32) (d : decode μ.2.1 pc = .ok (.iinc 3 n, 3)) (hpc : pc' = pc + 3) (hi : 3 < μ.2.2.1) (ho : okst (a0 :: a1 :: a2 :: some (.int x) :: ls) 3 = true) (hv : x + Int32.ofInt n = v) (k : wp g μ pc' (a0 :: a1 :: a2 :: some (.int v) :: ls) st M Q) : wp g μ pc (a0 :: a1 :: a2 :: some (.int x) :: ls) st M Q := wp_iinc v d hpc hi ho rfl hv k
theorem wp_ist4 {a0 a1 a2 a3 a4 : Option Value} {x : Int32} (d : decode μ.2.1 pc = .ok (.istore 4, 2)) (hpc : pc' = pc + 2) (hi : 4 < μ.2.2.1) (ho : okst (a0 :: a1 :: a2 :: a3 :: a4 :: ls) 4 = true) (k : wp g μ pc' (a0 :: a1 :: a2 :: a3 :: some (.int x) :: ls) st M Q) : wp g μ pc (a0 :: a1 :: a2 :: a3 :: a4 :: ls) (.int x :: st) M Q := wp_istore d hpc hi ho k
theorem wp_ast4 {a0 a1 a2 a3 a4 : Option Value} {v : Value} (d : decode μ.2.1 pc = .ok (.astore 4, 2)) (hpc : pc' = pc + 2) (hi : 4 < μ.2.2.1) (ho : okst (a0 :: a1 :: a2 :: a3 :: a4 :: ls) 4 = true) (hr : ∃ a : Nat, v = .ref a) (k : wp g μ pc' (a0 :: a1 :: a2 :: a3 :: some (v) :: ls) st M Q) : wp g μ pc (a0 :: a1 :: a2 :: a3 :: a4 :: ls) (v :: st) M Q := by
  obtain ⟨a, rfl⟩ := hr
  exact wp_astore d hpc hi ho k
theorem wp_inc4 {a0 a1 a2 a3 : Option Value} {n : Int} {x : Int32} (v : Int32) (d : decode μ.2.1 pc = .ok (.iinc 4 n, 3)) (hpc : pc' = pc + 3) (hi : 4 < μ.2.2.1) (ho : okst (a0 :: a1 :: a2 :: a3 :: some (.int x) :: ls) 4 = true) (hv : x + Int32.ofInt n = v) (k : wp g μ pc' (a0 :: a1 :: a2 :: a3 :: some (.int v) :: ls) st M Q) : wp g μ pc (a0 :: a1 :: a2 :: a3 :: some (.int x) :: ls) st M Q := wp_iinc v d hpc hi ho rfl hv k
theorem wp_ist5 {a0 a1 a2 a3 a4 a5 : Option Value} {x : Int32} (d : decode μ.2.1 pc = .ok (.istore 5, 2)) (hpc : pc' = pc + 2) (hi : 5 < μ.2.2.1) (ho : okst (a0 :: a1 :: a2 :: a3 :: a4 :: a5 :: ls) 5 = true) (k : wp g μ pc' (a0 :: a1 :: a2 :: a3 :: a4 :: some (.int x) :: ls) st M Q) : wp g μ pc (a0 :: a1 :: a2 :: a3 :: a4 :: a5 :: ls) (.int x :: st) M Q := wp_istore d hpc hi ho k
theorem wp_ast5 {a0 a1 a2 a3 a4 a5 : Option Value} {v : Value} (d : decode μ.2.1 pc = .ok (.astore 5, 2)) (hpc : pc' = pc + 2) (hi : 5 < μ.2.2.1) (ho : okst (a0 :: a1 :: a2 :: a3 :: a4 :: a5 :: ls) 5 = true) (hr : ∃ a : Nat, v = .ref a) (k : wp g μ pc' (a0 :: a1 :: a2 :: a3 :: a4 :: some (v) :: ls) st M Q) : wp g μ pc (a0 :: a1 :: a2 :: a3 :: a4 :: a5 :: ls) (v :: st) M Q := by
  obtain ⟨a, rfl⟩ := hr
  exact wp_astore d hpc hi ho k
theorem wp_inc5 {a0 a1 a2 a3 a4 : Option Value} {n : Int} {x : Int32} (v : Int32) (d : decode μ.2.1 pc = .ok (.iinc 5 n, 3)) (hpc : pc' = pc + 3) (hi : 5 < μ.2.2.1) (ho : okst (a0 :: a1 :: a2 :: a3 :: a4 :: some (.int x) :: ls) 5 = true) (hv : x + Int32.ofInt n = v) (k : wp g μ pc' (a0 :: a1 :: a2 :: a3 :: a4 :: some (.int v) :: ls) st M Q) : wp g μ pc (a0 :: a1 :: a2 :: a3 :: a4 :: some (.int x) :: ls) st M Q := wp_iinc v d hpc hi ho rfl hv k
theorem wp_ist6 {a0 a1 a2 a3 a4 a5 a6 : Option Value} {x : Int32} (d : decode μ.2.1 pc = .ok (.istore 6, 2)) (hpc : pc' = pc + 2) (hi : 6 < μ.2.2.1) (ho : okst (a0 :: a1 :: a2 :: a3 :: a4 :: a5 :: a6 :: ls) 6 = true) (k : wp g μ pc' (a0 :: a1 :: a2 :: a3 :: a4 :: a5 :: some (.int x) :: ls) st M Q) : wp g μ pc (a0 :: a1 :: a2 :: a3 :: a4 :: a5 :: a6 :: ls) (.int x :: st) M Q := wp_istore d hpc hi ho k
theorem wp_ast6 {a0 a1 a2 a3 a4 a5 a6 : Option Value} {v : Value} (d : decode μ.2.1 pc = .ok (.astore 6, 2)) (hpc : pc' = pc + 2) (hi : 6 < μ.2.2.1) (ho : okst (a0 :: a1 :: a2 :: a3 :: a4 :: a5 :: a6 :: ls) 6 = true) (hr : ∃ a : Nat, v = .ref a) (k : wp g μ pc' (a0 :: a1 :: a2 :: a3 :: a4 :: a5 :: some (v) :: ls) st M Q) : wp g μ pc (a0 :: a1 :: a2 :: a3 :: a4 :: a5 :: a6 :: ls) (v :: st) M Q := by
  obtain ⟨a, rfl⟩ := hr
  exact wp_astore d hpc hi ho k
theorem wp_inc6 {a0 a1 a2 a3 a4 a5 : Option Value} {n : Int} {x : Int32} (v : Int32) (d : decode μ.2.1 pc = .ok (.iinc 6 n, 3)) (hpc : pc' = pc + 3) (hi : 6 < μ.2.2.1) (ho : okst (a0 :: a1 :: a2 :: a3 :: a4 :: a5 :: some (.int x) :: ls) 6 = true) (hv : x + Int32.ofInt n = v) (k : wp g μ pc' (a0 :: a1 :: a2 :: a3 :: a4 :: a5 :: some (.int v) :: ls) st M Q) : wp g μ pc (a0 :: a1 :: a2 :: a3 :: a4 :: a5 :: some (.int x) :: ls) st M Q := wp_iinc v d hpc hi ho rfl hv k
theorem wp_ist7 {a0 a1 a2 a3 a4 a5 a6 a7 : Option Value} {x : Int32} (d : decode μ.2.1 pc = .ok (.istore 7, 2)) (hpc : pc' = pc + 2) (hi : 7 < μ.2.2.1) (ho : okst (a0 :: a1 :: a2 :: a3 :: a4 :: a5 :: a6 :: a7 :: ls) 7 = true) (k : wp g μ pc' (a0 :: a1 :: a2 :: a3 :: a4 :: a5 :: a6 :: some (.int x) :: ls) st M Q) : wp g μ pc (a0 :: a1 :: a2 :: a3 :: a4 :: a5 :: a6 :: a7 :: ls) (.int x :: st) M Q := wp_istore d hpc hi ho k
theorem wp_ast7 {a0 a1 a2 a3 a4 a5 a6 a7 : Option Value} {v : Value} (d : decode μ.2.1 pc = .ok (.astore 7, 2)) (hpc : pc' = pc + 2) (hi : 7 < μ.2.2.1) (ho : okst (a0 :: a1 :: a2 :: a3 :: a4 :: a5 :: a6 :: a7 :: ls) 7 = true) (hr : ∃ a : Nat, v = .ref a) (k : wp g μ pc' (a0 :: a1 :: a2 :: a3 :: a4 :: a5 :: a6 :: some (v) :: ls) st M Q) : wp g μ pc (a0 :: a1 :: a2 :: a3 :: a4 :: a5 :: a6 :: a7 :: ls) (v :: st) M Q := by
  obtain ⟨a, rfl⟩ := hr
  exact wp_astore d hpc hi ho k
theorem wp_inc7 {a0 a1 a2 a3 a4 a5 a6 : Option Value} {n : Int} {x : Int32} (v : Int32) (d : decode μ.2.1 pc = .ok (.iinc 7 n, 3)) (hpc : pc' = pc + 3) (hi : 7 < μ.2.2.1) (ho : okst (a0 :: a1 :: a2 :: a3 :: a4 :: a5 :: a6 :: some (.int x) :: ls) 7 = true) (hv : x + Int32.ofInt n = v) (k : wp g μ pc' (a0 :: a1 :: a2 :: a3 :: a4 :: a5 :: a6 :: some (.int v) :: ls) st M Q) : wp g μ pc (a0 :: a1 :: a2 :: a3 :: a4 :: a5 :: a6 :: some (.int x) :: ls) st M Q := wp_iinc v d hpc hi ho rfl hv k
theorem wp_ist8 {a0 a1 a2 a3 a4 a5 a6 a7 a8 : Option Value} {x : Int32} (d : decode μ.2.1 pc = .ok (.istore 8, 2)) (hpc : pc' = pc + 2) (hi : 8 < μ.2.2.1) (ho : okst (a0 :: a1 :: a2 :: a3 :: a4 :: a5 :: a6 :: a7 :: a8 :: ls) 8 = true) (k : wp g μ pc' (a0 :: a1 :: a2 :: a3 :: a4 :: a5 :: a6 :: a7 :: some (.int x) :: ls) st M Q) : wp g μ pc (a0 :: a1 :: a2 :: a3 :: a4 :: a5 :: a6 :: a7 :: a8 :: ls) (.int x :: st) M Q := wp_istore d hpc hi ho k
theorem wp_ast8 {a0 a1 a2 a3 a4 a5 a6 a7 a8 : Option Value} {v : Value} (d : decode μ.2.1 pc = .ok (.astore 8, 2)) (hpc : pc' = pc + 2) (hi : 8 < μ.2.2.1) (ho : okst (a0 :: a1 :: a2 :: a3 :: a4 :: a5 :: a6 :: a7 :: a8 :: ls) 8 = true) (hr : ∃ a : Nat, v = .ref a) (k : wp g μ pc' (a0 :: a1 :: a2 :: a3 :: a4 :: a5 :: a6 :: a7 :: some (v) :: ls) st M Q) : wp g μ pc (a0 :: a1 :: a2 :: a3 :: a4 :: a5 :: a6 :: a7 :: a8 :: ls) (v :: st) M Q := by
  obtain ⟨a, rfl⟩ := hr
  exact wp_astore d hpc hi ho k
theorem wp_inc8 {a0 a1 a2 a3 a4 a5 a6 a7 : Option Value} {n : Int} {x : Int32} (v : Int32) (d : decode μ.2.1 pc = .ok (.iinc 8 n, 3)) (hpc : pc' = pc + 3) (hi : 8 < μ.2.2.1) (ho : okst (a0 :: a1 :: a2 :: a3 :: a4 :: a5 :: a6 :: a7 :: some (.int x) :: ls) 8 = true) (hv : x + Int32.ofInt n = v) (k : wp g μ pc' (a0 :: a1 :: a2 :: a3 :: a4 :: a5 :: a6 :: a7 :: some (.int v) :: ls) st M Q) : wp g μ pc (a0 :: a1 :: a2 :: a3 :: a4 :: a5 :: a6 :: a7 :: some (.int x) :: ls) st M Q := wp_iinc v d hpc hi ho rfl hv k
theorem wp_ist9 {a0 a1 a2 a3 a4 a5 a6 a7 a8 a9 : Option Value} {x : Int32} (d : decode μ.2.1 pc = .ok (.istore 9, 2)) (hpc : pc' = pc + 2) (hi : 9 < μ.2.2.1) (ho : okst (a0 :: a1 :: a2 :: a3 :: a4 :: a5 :: a6 :: a7 :: a8 :: a9 :: ls) 9 = true) (k : wp g μ pc' (a0 :: a1 :: a2 :: a3 :: a4 :: a5 :: a6 :: a7 :: a8 :: some (.int x) :: ls) st M Q) : wp g μ pc (a0 :: a1 :: a2 :: a3 :: a4 :: a5 :: a6 :: a7 :: a8 :: a9 :: ls) (.int x :: st) M Q := wp_istore d hpc hi ho k
theorem wp_ast9 {a0 a1 a2 a3 a4 a5 a6 a7 a8 a9 : Option Value} {v : Value} (d : decode μ.2.1 pc = .ok (.astore 9, 2)) (hpc : pc' = pc + 2) (hi : 9 < μ.2.2.1) (ho : okst (a0 :: a1 :: a2 :: a3 :: a4 :: a5 :: a6 :: a7 :: a8 :: a9 :: ls) 9 = true) (hr : ∃ a : Nat, v = .ref a) (k : wp g μ pc' (a0 :: a1 :: a2 :: a3 :: a4 :: a5 :: a6 :: a7 :: a8 :: some (v) :: ls) st M Q) : wp g μ pc (a0 :: a1 :: a2 :: a3 :: a4 :: a5 :: a6 :: a7 :: a8 :: a9 :: ls) (v :: st) M Q := by
  obtain ⟨a, rfl⟩ := hr
  exact wp_astore d hpc hi ho k
theorem wp_inc9 {a0 a1 a2 a3 a4 a5 a6 a7 a8 : Option Value} {n : Int} {x : Int32} (v : Int32) (d : decode μ.2.1 pc = .ok (.iinc 9 n, 3)) (hpc : pc' = pc + 3) (hi : 9 < μ.2.2.1) (ho : okst (a0 :: a1 :: a2 :: a3 :: a4 :: a5 :: a6 :: a7 :: a8 :: some (.int x) :: ls) 9 = true) (hv : x + Int32.ofInt n = v) (k : wp g μ pc' (a0 :: a1 :: a2 :: a3 :: a4 :: a5 :: a6 :: a7 :: a8 :: some (.int v) :: ls) st M Q) : wp g μ pc (a0 :: a1 :: a2 :: a3 :: a4 :: a5 :: a6 :: a7 :: a8 :: some (.int x) :: ls) st M Q := wp_iinc v d hpc hi ho rfl hv k
theorem wp_ist10 {a0 a1 a2 a3 a4 a5 a6 a7 a8 a9 a10 : Option Value} {x : Int32} (d : decode μ.2.1 pc = .ok (.istore 10, 2)) (hpc : pc' = pc + 2) (hi : 10 < μ.2.2.1) (ho : okst (a0 :: a1 :: a2 :: a3 :: a4 :: a5 :: a6 :: a7 :: a8 :: a9 :: a10 :: ls) 10 = true) (k : wp g μ pc' (a0 :: a1 :: a2 :: a3 :: a4 :: a5 :: a6 :: a7 :: a8 :: a9 :: some (.int x) :: ls) st M Q) : wp g μ pc (a0 :: a1 :: a2 :: a3 :: a4 :: a5 :: a6 :: a7 :: a8 :: a9 :: a10 :: ls) (.int x :: st) M Q := wp_istore d hpc hi ho k
theorem wp_ast10 {a0 a1 a2 a3 a4 a5 a6 a7 a8 a9 a10 : Option Value} {v : Value} (d : decode μ.2.1 pc = .ok (.astore 10, 2)) (hpc : pc' = pc + 2) (hi : 10 < μ.2.2.1) (ho : okst (a0 :: a1 :: a2 :: a3 :: a4 :: a5 :: a6 :: a7 :: a8 :: a9 :: a10 :: ls) 10 = true) (hr : ∃ a : Nat, v = .ref a) (k : wp g μ pc' (a0 :: a1 :: a2 :: a3 :: a4 :: a5 :: a6 :: a7 :: a8 :: a9 :: some (v) :: ls) st M Q) : wp g μ pc (a0 :: a1 :: a2 :: a3 :: a4 :: a5 :: a6 :: a7 :: a8 :: a9 :: a10 :: ls) (v :: st) M Q := by
  obtain ⟨a, rfl⟩ := hr
  exact wp_astore d hpc hi ho k
theorem wp_inc10 {a0 a1 a2 a3 a4 a5 a6 a7 a8 a9 : Option Value} {n : Int} {x : Int32} (v : Int32) (d : decode μ.2.1 pc = .ok (.iinc 10 n, 3)) (hpc : pc' = pc + 3) (hi : 10 < μ.2.2.1) (ho : okst (a0 :: a1 :: a2 :: a3 :: a4 :: a5 :: a6 :: a7 :: a8 :: a9 :: some (.int x) :: ls) 10 = true) (hv : x + Int32.ofInt n = v) (k : wp g μ pc' (a0 :: a1 :: a2 :: a3 :: a4 :: a5 :: a6 :: a7 :: a8 :: a9 :: some (.int v) :: ls) st M Q) : wp g μ pc (a0 :: a1 :: a2 :: a3 :: a4 :: a5 :: a6 :: a7 :: a8 :: a9 :: some (.int x) :: ls) st M Q := wp_iinc v d hpc hi ho rfl hv k
theorem wp_icmp_eq {x y : Int32} {off : Int} (tgt : Nat) (d : decode μ.2.1 pc = .ok (.if_icmp .eq off, 3)) (hpc : pc' = pc + 3) (ht : (pc : Int) + off = (tgt : Int)) (kt : x = y → wp g μ tgt ls st M Q) (kf : ¬ x = y → wp g μ pc' ls st M Q) : wp g μ pc ls (.int y :: .int x :: st) M Q := by
  subst hpc
  intro p e s m args below meth c H locs lsA C D P S L
  exact lv_icmp_eq C.1 C.2.1 d ht (fun h => kt h p e s m args below meth c H locs lsA C D P S L) (fun h => kf h p e s m args below meth c H locs lsA C D P S L)
theorem wp_if_eq {x : Int32} {off : Int} (tgt : Nat) (d : decode μ.2.1 pc = .ok (.ifCond .eq off, 3)) (hpc : pc' = pc + 3) (ht : (pc : Int) + off = (tgt : Int)) (kt : x = 0 → wp g μ tgt ls st M Q) (kf : ¬ x = 0 → wp g μ pc' ls st M Q) : wp g μ pc ls (.int x :: st) M Q := by
  subst hpc
  intro p e s m args below meth c H locs lsA C D P S L
  exact lv_if_eq C.1 C.2.1 d ht (fun h => kt h p e s m args below meth c H locs lsA C D P S L) (fun h => kf h p e s m args below meth c H locs lsA C D P S L)
theorem wp_icmp_ne {x y : Int32} {off : Int} (tgt : Nat) (d : decode μ.2.1 pc = .ok (.if_icmp .ne off, 3)) (hpc : pc' = pc + 3) (ht : (pc : Int) + off = (tgt : Int)) (kt : ¬ x = y → wp g μ tgt ls st M Q) (kf : x = y → wp g μ pc' ls st M Q) : wp g μ pc ls (.int y :: .int x :: st) M Q := by
  subst hpc
  intro p e s m args below meth c H locs lsA C D P S L
  exact lv_icmp_ne C.1 C.2.1 d ht (fun h => kt h p e s m args below meth c H locs lsA C D P S L) (fun h => kf h p e s m args below meth c H locs lsA C D P S L)
theorem wp_if_ne {x : Int32} {off : Int} (tgt : Nat) (d : decode μ.2.1 pc = .ok (.ifCond .ne off, 3)) (hpc : pc' = pc + 3) (ht : (pc : Int) + off = (tgt : Int)) (kt : ¬ x = 0 → wp g μ tgt ls st M Q) (kf : x = 0 → wp g μ pc' ls st M Q) : wp g μ pc ls (.int x :: st) M Q := by
  subst hpc
  intro p e s m args below meth c H locs lsA C D P S L
  exact lv_if_ne C.1 C.2.1 d ht (fun h => kt h p e s m args below meth c H locs lsA C D P S L) (fun h => kf h p e s m args below meth c H locs lsA C D P S L)
theorem wp_icmp_lt {x y : Int32} {off : Int} (tgt : Nat) (d : decode μ.2.1 pc = .ok (.if_icmp .lt off, 3)) (hpc : pc' = pc + 3) (ht : (pc : Int) + off = (tgt : Int)) (kt : x < y → wp g μ tgt ls st M Q) (kf : ¬ x < y → wp g μ pc' ls st M Q) : wp g μ pc ls (.int y :: .int x :: st) M Q := by
  subst hpc
  intro p e s m args below meth c H locs lsA C D P S L
  exact lv_icmp_lt C.1 C.2.1 d ht (fun h => kt h p e s m args below meth c H locs lsA C D P S L) (fun h => kf h p e s m args below meth c H locs lsA C D P S L)
theorem wp_if_lt {x : Int32} {off : Int} (tgt : Nat) (d : decode μ.2.1 pc = .ok (.ifCond .lt off, 3)) (hpc : pc' = pc + 3) (ht : (pc : Int) + off = (tgt : Int)) (kt : x < 0 → wp g μ tgt ls st M Q) (kf : ¬ x < 0 → wp g μ pc' ls st M Q) : wp g μ pc ls (.int x :: st) M Q := by
  subst hpc
  intro p e s m args below meth c H locs lsA C D P S L
  exact lv_if_lt C.1 C.2.1 d ht (fun h => kt h p e s m args below meth c H locs lsA C D P S L) (fun h => kf h p e s m args below meth c H locs lsA C D P S L)
theorem wp_icmp_ge {x y : Int32} {off : Int} (tgt : Nat) (d : decode μ.2.1 pc = .ok (.if_icmp .ge off, 3)) (hpc : pc' = pc + 3) (ht : (pc : Int) + off = (tgt : Int)) (kt : y ≤ x → wp g μ tgt ls st M Q) (kf : ¬ y ≤ x → wp g μ pc' ls st M Q) : wp g μ pc ls (.int y :: .int x :: st) M Q := by
  subst hpc
  intro p e s m args below meth c H locs lsA C D P S L
  exact lv_icmp_ge C.1 C.2.1 d ht (fun h => kt h p e s m args below meth c H locs lsA C D P S L) (fun h => kf h p e s m args below meth c H locs lsA C D P S L)
theorem wp_if_ge {x : Int32} {off : Int} (tgt : Nat) (d : decode μ.2.1 pc = .ok (.ifCond .ge off, 3)) (hpc : pc' = pc + 3) (ht : (pc : Int) + off = (tgt : Int)) (kt : 0 ≤ x → wp g μ tgt ls st M Q) (kf : ¬ 0 ≤ x → wp g μ pc' ls st M Q) : wp g μ pc ls (.int x :: st) M Q := by
  subst hpc
  intro p e s m args below meth c H locs lsA C D P S L
  exact lv_if_ge C.1 C.2.1 d ht (fun h => kt h p e s m args below meth c H locs lsA C D P S L) (fun h => kf h p e s m args below meth c H locs lsA C D P S L)
theorem wp_icmp_gt {x y : Int32} {off : Int} (tgt : Nat) (d : decode μ.2.1 pc = .ok (.if_icmp .gt off, 3)) (hpc : pc' = pc + 3) (ht : (pc : Int) + off = (tgt : Int)) (kt : y < x → wp g μ tgt ls st M Q) (kf : ¬ y < x → wp g μ pc' ls st M Q) : wp g μ pc ls (.int y :: .int x :: st) M Q := by
  subst hpc
  intro p e s m args below meth c H locs lsA C D P S L
  exact lv_icmp_gt C.1 C.2.1 d ht (fun h => kt h p e s m args below meth c H locs lsA C D P S L) (fun h => kf h p e s m args below meth c H locs lsA C D P S L)
theorem wp_if_gt {x : Int32} {off : Int} (tgt : Nat) (d : decode μ.2.1 pc = .ok (.ifCond .gt off, 3)) (hpc : pc' = pc + 3) (ht : (pc : Int) + off = (tgt : Int)) (kt : 0 < x → wp g μ tgt ls st M Q) (kf : ¬ 0 < x → wp g μ pc' ls st M Q) : wp g μ pc ls (.int x :: st) M Q := by
  subst hpc
  intro p e s m args below meth c H locs lsA C D P S L
  exact lv_if_gt C.1 C.2.1 d ht (fun h => kt h p e s m args below meth c H locs lsA C D P S L) (fun h => kf h p e s m args below meth c H locs lsA C D P S L)
theorem wp_icmp_le {x y : Int32} {off : Int} (tgt : Nat) (d : decode μ.2.1 pc = .ok (.if_icmp .le off, 3)) (hpc : pc' = pc + 3) (ht : (pc : Int) + off = (tgt : Int)) (kt : x ≤ y → wp g μ tgt ls st M Q) (kf : ¬ x ≤ y → wp g μ pc' ls st M Q) : wp g μ pc ls (.int y :: .int x :: st) M Q := by
  subst hpc
  intro p e s m args below meth c H locs lsA C D P S L
  exact lv_icmp_le C.1 C.2.1 d ht (fun h => kt h p e s m args below meth c H locs lsA C D P S L) (fun h => kf h p e s m args below meth c H locs lsA C D P S L)
theorem wp_if_le {x : Int32} {off : Int} (tgt : Nat) (d : decode μ.2.1 pc = .ok (.ifCond .le off, 3)) (hpc : pc' = pc + 3) (ht : (pc : Int) + off = (tgt : Int)) (kt : x ≤ 0 → wp g μ tgt ls st M Q) (kf : ¬ x ≤ 0 → wp g μ pc' ls st M Q) : wp g μ pc ls (.int x :: st) M Q := by
  subst hpc
  intro p e s m args below meth c H locs lsA C D P S L
  exact lv_if_le C.1 C.2.1 d ht (fun h => kt h p e s m args below meth c H locs lsA C D P S L) (fun h => kf h p e s m args below meth c H locs lsA C D P S L)
theorem wp_goto {off : Int} (tgt : Nat) (d : decode μ.2.1 pc = .ok (.goto off, 3)) (ht : (pc : Int) + off = (tgt : Int)) (k : wp g μ tgt ls st M Q) : wp g μ pc ls st M Q := by
  intro p e s m args below meth c H locs lsA C D P S L
  exact lv_goto C.1 C.2.1 d ht (k p e s m args below meth c H locs lsA C D P S L)
theorem wp_tin {dflt lo hi : Int} {offs : Array Int} {len : Nat} {x : Int32} {off : Int} (tgt : Nat) (d : decode μ.2.1 pc = .ok (.tableswitch dflt lo hi offs, len)) (h1 : ¬ x.toInt < lo) (h2 : ¬ hi < x.toInt) (ho : offs[(x.toInt - lo).toNat]? = some off) (ht : (pc : Int) + off = (tgt : Int)) (k : wp g μ tgt ls st M Q) : wp g μ pc ls (.int x :: st) M Q := by
  intro p e s m args below meth c H locs lsA C D P S L
  exact lv_tableIn C.1 C.2.1 d h1 h2 ho ht (k p e s m args below meth c H locs lsA C D P S L)
theorem wp_tout {dflt lo hi : Int} {offs : Array Int} {len : Nat} {x : Int32} (tgt : Nat) (d : decode μ.2.1 pc = .ok (.tableswitch dflt lo hi offs, len)) (h : x.toInt < lo ∨ hi < x.toInt) (ht : (pc : Int) + dflt = (tgt : Int)) (k : wp g μ tgt ls st M Q) : wp g μ pc ls (.int x :: st) M Q := by
  intro p e s m args below meth c H locs lsA C D P S L
  exact lv_tableOut C.1 C.2.1 d h ht (k p e s m args below meth c H locs lsA C D P S L)
/-! returns -/
theorem wp_ireti {v : Int32} (d : decode μ.2.1 pc = .ok (.ireturn, 1)) (hr : μ.2.2.2.1 = some .int) (k : Q (some (.int v)) M) : wp g μ pc ls [.int v] M Q := by
  intro p e s m args below meth c H locs lsA C D P S L
  exact W.iret (v := v) C.1 C.2.1 (C.2.2.1.trans hr) (fun t ht hW => ⟨⟨_, M, rfl, k, by rw [ht]; exact P⟩, S.F ht⟩) S.2.2 d C.2.2.2.2.2.2.1
theorem wp_iretz {v : Int32} {ty : FieldType} (d : decode μ.2.1 pc = .ok (.ireturn, 1)) (hr : μ.2.2.2.1 = some ty) (hn : narrow ty (.int v) = .int v) (k : Q (some (.int v)) M) : wp g μ pc ls [.int v] M Q := by
  intro p e s m args below meth c H locs lsA C D P S L
  exact W.zret (v := v) (ty := ty) C.1 C.2.1 (C.2.2.1.trans hr) hn (fun t ht hW => ⟨⟨_, M, rfl, k, by rw [ht]; exact P⟩, S.F ht⟩) S.2.2 d C.2.2.2.2.2.2.1
theorem wp_vret (d : decode μ.2.1 pc = .ok (.return_, 1)) (hr : μ.2.2.2.1 = none) (k : Q none M) : wp g μ pc ls [] M Q := by
  intro p e s m args below meth c H locs lsA C D P S L
  exact W.vret C.1 C.2.1 (C.2.2.1.trans hr) (fun t ht hW => ⟨⟨_, M, rfl, k, by rw [ht]; exact P⟩, S.F ht⟩) S.2.2 d C.2.2.2.2.2.2.1
theorem wp_lret {v : Int64} (d : decode μ.2.1 pc = .ok (.lreturn, 1)) (hr : μ.2.2.2.1 = some .long) (k : Q (some (.long v)) M) : wp g μ pc ls [.long v] M Q := by
  intro p e s m args below meth c H locs lsA C D P S L
  exact W.lret (v := v) C.1 C.2.1 (C.2.2.1.trans hr) (fun t ht hW => ⟨⟨_, M, rfl, k, by rw [ht]; exact P⟩, S.F ht⟩) S.2.2 d C.2.2.2.2.2.2.1
theorem wp_aret {o : Nat} {n : String} (d : decode μ.2.1 pc = .ok (.areturn, 1)) (hr : μ.2.2.2.1 = some (.object n)) (k : Q (some (ob g o)) M) : wp g μ pc ls [ob g o] M Q := by
  intro p e s m args below meth c H locs lsA C D P S L
  exact W.aret (v := ob g o) C.1 C.2.1 (C.2.2.1.trans hr) (Or.inl ⟨_, rfl⟩) (Or.inr ⟨_, rfl⟩) (fun t ht hW => ⟨⟨_, M, rfl, k, by rw [ht]; exact P⟩, S.F ht⟩) S.2.2 d C.2.2.2.2.2.2.1
/-! fields -/
def FL (own : String) (idx ci k : Nat) : Prop := ∃ (C : String) (T : u_T) (N : Nat), vwCl[ci]? = some (C, T, N) ∧ k < N ∧ (∀ w ∈ u_ws C T N, w ∈ wsL_law) ∧ (Cond.fieldLink own idx (T k).1 (T k).2.1 (T k).2.2.1 ∈ wsL_law ∨ Cond.fieldLinkNest own idx (T k).1 (T k).2.1 (T k).2.2.1 "MoorStones" ∈ NW)
def FP (own : String) (idx ci k : Nat) (ty : FieldType) : Prop := ∃ (C : String) (T : u_T) (N : Nat) (ty0 : Nat → FieldType), vwCl[ci]? = some (C, T, N) ∧ k < N ∧ (∀ w ∈ u_ws C T N, w ∈ wsL_law) ∧ (Cond.fieldLink own idx (T k).1 (T k).2.1 (T k).2.2.1 ∈ wsL_law ∨ Cond.fieldLinkNest own idx (T k).1 (T k).2.1 (T k).2.2.1 "MoorStones" ∈ NW) ∧ (∀ k, k < N → parseFieldDescriptor (T k).2.2.1 = some (ty0 k)) ∧ (∀ a, a < N → ∀ b, b < N → a ≠ b → (T a).2.1 ≠ (T b).2.1) ∧ (T k).2.2.2 = false ∧ parseFieldDescriptor (T k).2.2.1 = some ty
theorem wp_get {o ci k idx : Nat} {v : Value} {fs : List Value} (d : decode μ.2.1 pc = .ok (.getfield idx, 3)) (hpc : pc' = pc + 3) (fl : FL μ.1.cls idx ci k) (ho : o < 38) (hc : cell_ g o (M.1 o) (M.2 o) = .inr (ci, fs)) (hv : fs[k]? = some v) (kk : wp g μ pc' ls (v :: st) M Q) : wp g μ pc ls (ob g o :: st) M Q := by
  subst hpc
  intro p e s m args below meth c H locs lsA C D P S L
  obtain ⟨CN, T, N, h1, h2, h3, h4⟩ := fl
  have he := world_get g M ho
  rw [hc] at he
  rcases h4 with h4 | h4
  · exact va_get C.1 C.2.1 (fun w hw => C.2.2.2.2.2.1 w (h3 w hw)) (fun _ h => h) C.2.2.2.2.1 C.2.2.2.2.2.2.2.1.1 P o he h1 k h2 (C.2.2.2.2.2.1 _ h4) (fun _ h => h) hv d (kk p e s m args below meth c H locs lsA C D P S L)
  · exact va_getN C.1 C.2.1 (fun w hw => C.2.2.2.2.2.1 w (h3 w hw)) (fun _ h => h) C.2.2.2.2.1 C.2.2.2.2.2.2.2.1.1 P o he h1 k h2 ((C.2.2.2.2.2.2.2.1.2.1 _ h4).use rfl) (fun _ h => h) hv d (kk p e s m args below meth c H locs lsA C D P S L)
theorem wp_putG {o ci k idx : Nat} {v : Value} {fs : List Value} {ty : FieldType} {M' : Mem} (d : decode μ.2.1 pc = .ok (.putfield idx, 3)) (hpc : pc' = pc + 3) (fl : FP μ.1.cls idx ci k ty) (ho : o < 38) (hc : cell_ g o (M.1 o) (M.2 o) = .inr (ci, fs)) (hk : k < fs.length) (hset : cell_ g o (M'.1 o) (M'.2 o) = .inr (ci, fs.set k v)) (hne : ∀ a, a ≠ o → M'.1 a = M.1 a ∧ M'.2 a = M.2 a) (hn : narrow ty v = v) (hf : fits ty v = true) (kk : wp g μ pc' ls st M' Q) : wp g μ pc ls (v :: ob g o :: st) M Q := by
  subst hpc
  intro p e s m args below meth c H locs lsA C D P S L
  obtain ⟨CN, T, N, ty0, h1, h2, h3, h4, h5, h6, h7, h8⟩ := fl
  have he := world_get g M ho
  rw [hc] at he
  rcases h4 with h4 | h4
  · exact va_put C.1 C.2.1 (fun w hw => C.2.2.2.2.2.1 w (h3 w hw)) (fun _ h => h) ty0 h5 h6 C.2.2.2.2.1 C.2.2.2.2.2.2.2.1.1 P D S o he h1 k h2 (C.2.2.2.2.2.1 _ h4) (fun _ h => h) h7 h8 hn hf hk d (fun H1 locs1 P1 D1 S1 => by
      rw [world_set g M M' ho hset hne] at P1
      exact kk p e s m args below meth c H1 locs1 lsA C (world_D g M M' D) P1 S1 L)
  · exact va_putN C.1 C.2.1 (fun w hw => C.2.2.2.2.2.1 w (h3 w hw)) (fun _ h => h) ty0 h5 h6 C.2.2.2.2.1 C.2.2.2.2.2.2.2.1.1 P D S o he h1 k h2 ((C.2.2.2.2.2.2.2.1.2.1 _ h4).use rfl) (fun _ h => h) h7 h8 hn hf hk d (fun H1 locs1 P1 D1 S1 => by
      rw [world_set g M M' ho hset hne] at P1
      exact kk p e s m args below meth c H1 locs1 lsA C (world_D g M M' D) P1 S1 L)
theorem wp_put {o ci k idx : Nat} {x : Int32} {fs : List Value} (d : decode μ.2.1 pc = .ok (.putfield idx, 3)) (hpc : pc' = pc + 3) (fl : FP μ.1.cls idx ci k .int) (ho : o < 38) (hc : cell_ g o (M.1 o) (M.2 o) = .inr (ci, fs)) (hk : k < fs.length) (hset : cell_ g o (upd (M.1 o) k x) (M.2 o) = .inr (ci, fs.set k (.int x))) (kk : wp g μ pc' ls st (upI M o k x) Q) : wp g μ pc ls (.int x :: ob g o :: st) M Q :=
  wp_putG d hpc fl ho hc hk (by rw [upI_eq]; exact hset) (fun a h => upI_ne M o k x h) rfl rfl kk
theorem wp_putz {o ci k idx : Nat} {x : Int32} {fs : List Value} (d : decode μ.2.1 pc = .ok (.putfield idx, 3)) (hpc : pc' = pc + 3) (fl : FP μ.1.cls idx ci k .boolean) (ho : o < 38) (hc : cell_ g o (M.1 o) (M.2 o) = .inr (ci, fs)) (hk : k < fs.length) (hset : cell_ g o (upd (M.1 o) k x) (M.2 o) = .inr (ci, fs.set k (.int x))) (hn : narrow .boolean (.int x) = .int x) (hf : fits .boolean (.int x) = true) (kk : wp g μ pc' ls st (upI M o k x) Q) : wp g μ pc ls (.int x :: ob g o :: st) M Q :=
  wp_putG d hpc fl ho hc hk (by rw [upI_eq]; exact hset) (fun a h => upI_ne M o k x h) hn hf kk
theorem wp_putl {o ci k idx : Nat} {x : Int64} {fs : List Value} (d : decode μ.2.1 pc = .ok (.putfield idx, 3)) (hpc : pc' = pc + 3) (fl : FP μ.1.cls idx ci k .long) (ho : o < 38) (hc : cell_ g o (M.1 o) (M.2 o) = .inr (ci, fs)) (hk : k < fs.length) (hset : cell_ g o (M.1 o) x = .inr (ci, fs.set k (.long x))) (kk : wp g μ pc' ls st (upT M o x) Q) : wp g μ pc ls (.long x :: ob g o :: st) M Q :=
  wp_putG d hpc fl ho hc hk (by rw [upT_eq]; exact hset) (fun a h => upT_ne M o x h) rfl rfl kk
/-! arrays -/
theorem wp_iald {o n : Nat} {i : Int32} (d : decode μ.2.1 pc = .ok (.iaload, 1)) (hpc : pc' = pc + 1) (ho : o < 38) (hc : cell_ g o (M.1 o) (M.2 o) = .inl (g_cI g, n, .inl (M.1 o))) (hin : vp_in i n) (kk : wp g μ pc' ls (.int (M.1 o i.toNatClampNeg) :: st) M Q) : wp g μ pc ls (.int i :: ob g o :: st) M Q := by
  subst hpc
  intro p e s m args below meth c H locs lsA C D P S L
  have he := world_get g M ho
  rw [hc] at he
  exact va_iald C.1 C.2.1 C.2.2.2.2.2.2.2.1.1 P o 0 he rfl hin d (kk p e s m args below meth c H locs lsA C D P S L)
theorem wp_zald {o n : Nat} {i : Int32} (d : decode μ.2.1 pc = .ok (.baload, 1)) (hpc : pc' = pc + 1) (ho : o < 38) (hc : cell_ g o (M.1 o) (M.2 o) = .inl (g_cZ g, n, .inl (M.1 o))) (hin : vp_in i n) (kk : wp g μ pc' ls (.int (M.1 o i.toNatClampNeg) :: st) M Q) : wp g μ pc ls (.int i :: ob g o :: st) M Q := by
  subst hpc
  intro p e s m args below meth c H locs lsA C D P S L
  have he := world_get g M ho
  rw [hc] at he
  exact va_zald C.1 C.2.1 C.2.2.2.2.2.2.2.1.1 P o 1 he rfl hin d (kk p e s m args below meth c H locs lsA C D P S L)
theorem wp_iast {o n : Nat} {i x : Int32} (d : decode μ.2.1 pc = .ok (.iastore, 1)) (hpc : pc' = pc + 1) (ho : o < 38) (hc : ∀ (f : Nat → Int32) (t : Int64), cell_ g o f t = .inl (g_cI g, n, .inl f)) (hin : vp_in i n) (kk : wp g μ pc' ls st (upI M o i.toNatClampNeg x) Q) : wp g μ pc ls (.int x :: .int i :: ob g o :: st) M Q := by
  subst hpc
  intro p e s m args below meth c H locs lsA C D P S L
  have he := world_get g M ho
  rw [hc] at he
  exact va_iast C.1 C.2.1 C.2.2.2.2.2.2.2.1.1 P D S o 0 he rfl hin d (fun H1 locs1 P1 D1 S1 => by
    rw [world_set g M (upI M o i.toNatClampNeg x) ho (by rw [hc, upI_eq]) (fun a h => upI_ne M o _ x h)] at P1
    exact kk p e s m args below meth c H1 locs1 lsA C (world_D g M _ D) P1 S1 L)
theorem wp_zast {o n : Nat} {i x : Int32} (d : decode μ.2.1 pc = .ok (.bastore, 1)) (hpc : pc' = pc + 1) (ho : o < 38) (hc : ∀ (f : Nat → Int32) (t : Int64), cell_ g o f t = .inl (g_cZ g, n, .inl f)) (hin : vp_in i n) (hx : vp_nar .boolean x = x) (kk : wp g μ pc' ls st (upI M o i.toNatClampNeg x) Q) : wp g μ pc ls (.int x :: .int i :: ob g o :: st) M Q := by
  subst hpc
  intro p e s m args below meth c H locs lsA C D P S L
  have he := world_get g M ho
  rw [hc] at he
  exact va_zast C.1 C.2.1 C.2.2.2.2.2.2.2.1.1 P D S o 1 he rfl hin d (fun H1 locs1 P1 D1 S1 => by
    rw [hx] at P1
    rw [world_set g M (upI M o i.toNatClampNeg x) ho (by rw [hc, upI_eq]) (fun a h => upI_ne M o _ x h)] at P1
    exact kk p e s m args below meth c H1 locs1 lsA C (world_D g M _ D) P1 S1 L)
theorem wp_alen {o n : Nat} {v : Int32} (d : decode μ.2.1 pc = .ok (.arraylength, 1)) (hpc : pc' = pc + 1) (ho : o < 38) (hc : cell_ g o (M.1 o) (M.2 o) = .inl (g_cI g, n, .inl (M.1 o))) (hv : Int32.ofNat n = v) (kk : wp g μ pc' ls (.int v :: st) M Q) : wp g μ pc ls (ob g o :: st) M Q := by
  subst hpc
  intro p e s m args below meth c H locs lsA C D P S L
  have he := world_get g M ho
  rw [hc] at he
  exact va_alen C.1 C.2.1 C.2.2.2.2.2.2.2.1.1 P o 0 he (ty := .int) rfl hv d (kk p e s m args below meth c H locs lsA C D P S L)
/-! calls -/
def CB (μ' : MD) (n : Nat) : Prop := Cond.code μ'.1 μ'.2.1 μ'.2.2.1 μ'.2.2.2.1 ∈ wsL_law ∧ Cond.initialized μ'.1.cls ∈ wsL_law ∧ (μ'.1.cls ≠ "java/lang/invoke/MethodHandle" ∧ μ'.1.cls ≠ "java/lang/invoke/VarHandle" ∧ (parseMethodDescriptor μ'.1.desc).map (fun d => d.parameters.length) = some n)
def CFV (μ' : MD) (n : Nat) : Prop := CB μ' n ∧ Cond.instanceMethod μ'.1 ∈ wsL_law ∧ Cond.selects μ'.1.cls μ'.1 μ'.1 ∈ wsL_law
def CFS (μ' : MD) (n : Nat) : Prop := CB μ' n ∧ Cond.static μ'.1 ∈ wsL_law
def ML (own : String) (idx : Nat) (y : MethodName) : Prop := Cond.methodLink own idx y ∈ wsL_law ∨ Cond.methodLinkNest own idx y "MoorStones" ∈ NW
def RM (μ μ' : MD) : Prop := μ'.2.2.2.2.1 + 1 ≤ μ.2.2.2.2.1 ∧ 8 + (μ'.2.2.1 + 11) + μ'.2.2.2.2.2 ≤ μ.2.2.2.2.2
theorem blindP (g : GG) (M : Mem) (vs : List Value) : FrameBlind (va_Pc vs (PreM g M)) := fun a U gg mk ⟨h1, h2, h3, h4, h5⟩ =>
  ⟨h1, h2, EnvG.same (u := U) (U := U.calling gg mk a) rfl h3, h4, Str.moved (u := U) (U := U.calling gg mk a) (Vm.Alike.refl U.vm) h5⟩
theorem preP {g : GG} {M : Mem} {vs : List Value} {s : State} {H : Heap} {locs : List Loc} (hE : EnvG g s) (hT : Str g s s.heap) (D : va_D (AA g) (world g M)) (P : va_P (g_D g) vwCl (world g M) H) (S : va_S (AA g) s.heap H locs) : ∀ U : State, U.heap = H → s.WarmedH U.vm → va_Pc vs (PreM g M) vs.toArray U := fun U hU hW =>
  ⟨rfl, by rw [hU]; exact P, hE.warm hW, D, by rw [hU]; exact (hT.moved hW.alike).kept S.2.1⟩
theorem W_run {p : Program} {l : Launch} {e : Env} {R : Room} {s : State} {m : MethodId} {args : Array Value} {below : List Frame} {meth : Method} {c : Code} {H : Heap} {locs : List Loc} {lsA : Array Slot} {st0 rest : List Value} {QW : State → Prop} {Q' : Option Value → Mem → Prop} {a : Array Value}
    (hr : va_Run p l e R s m args below meth c H locs 0 0 0 0 (F0 m pc lsA st0) rest (QQ g Q' a) (AA g)) (S : va_S (AA g) s.heap H locs)
    (kk : ∀ (r : Option Value) (M' : Mem), Q' r M' → ∀ (H1 : Heap) (locs1 : List Loc), va_P (g_D g) vwCl (world g M') H1 → va_S (AA g) s.heap H1 locs1 → W p l e R s m args below meth c H1 locs1 0 0 QW (F0 m (pc + 3) lsA (r.toList ++ rest))) : W p l e R s m args below meth c H locs 0 0 QW (F0 m pc lsA st0) := by
  intro T hT X
  obtain ⟨v, st₀, t, T', L, h0, X', hL, e1, e2, ⟨⟨r, M', hv, hp, hb⟩, hz, hk⟩, st⟩ := hr T hT X
  cases hv
  rw [h0] at hz hk
  obtain ⟨t2, a1, b1⟩ := kk v M' hp T'.heap (locs ++ L) (by rw [e1]; exact hb)
    ⟨Nat.le_trans S.1 (by rw [e1]; exact hz), fun q h1 h2 => by rw [e1, hk q (Nat.lt_of_lt_of_le h1 S.1) h2]; exact S.2.1 q h1 h2, fun q hq => by
      rcases List.mem_append.mp hq with h | h
      · exact S.2.2 q h
      · exact hL q h⟩ T' rfl X'
  exact ⟨t2, st t2 a1, b1⟩
theorem wp_callV {μ' : MD} {idx n o ci : Nat} {fs As rest : List Value} {Q' : Option Value → Mem → Prop} {q : vw_C} (d : decode μ.2.1 pc = .ok (.invokevirtual idx, 3)) (hpc : pc' = pc + 3) (ml : ML μ.1.cls idx μ'.1) (cf : CFV μ' n) (rm : RM μ μ') (hs : Spec g μ' (ob g o :: As) M Q') (ho : o < 38) (hc : cell_ g o (M.1 o) (M.2 o) = .inr (ci, fs)) (hq : vwCl[ci]? = some q) (hcl : q.1 = μ'.1.cls) (hn : As.length = n) (hst : st = As.reverse ++ ob g o :: rest) (hW : (rest.map fun v => v.category).sum ≤ 8)
    (k : ∀ r M', Q' r M' → wp g μ pc' ls (r.toList ++ rest) M' Q) : wp g μ pc ls st M Q := by
  subst hpc
  intro p e s m args below meth c H locs lsA C D P S L
  obtain ⟨⟨f1, f2, f3⟩, f4, f5⟩ := cf
  have hts := C.2.2.2.2.2.1
  have he := world_get g M ho
  rw [hc] at he
  refine W_run (rest := rest) (a := (ob g o :: As).toArray) (Q' := Q') ?_ S (fun r M' h H1 locs1 P1 S1 => k r M' h p e s m args below meth c H1 locs1 lsA C (world_D g M M' D) P1 S1 L)
  rcases ml with ml | ml
  · exact va_runV (C := μ'.1.cls) (b := g_ad g o) (As := As) (rest := rest) ⟨C.1, C.2.1, C.2.2.2.1, C.2.2.2.2.1, hts⟩ hs ⟨callB_of (ws' := wsL_law) n hts (wsOf_good f1) rfl rfl rfl (hts _ f2) (hts _ ml) f3 rm, hts _ f4, hts _ f5⟩
      ⟨blindP g M _, by rw [← hcl]; exact va_recv C.2.2.2.2.2.2.2.1.1 P hq he, preP C.2.2.2.2.2.2.2.1 C.2.2.2.2.2.2.2.2 D P S⟩ rfl hn L.1 hst (lv_room hW) d ⟨Nat.le_refl 0, Nat.le_refl 0⟩
  · exact va_runVN (host := "MoorStones") (C := μ'.1.cls) (b := g_ad g o) (As := As) (rest := rest) ⟨C.1, C.2.1, C.2.2.2.1, C.2.2.2.2.1, hts⟩ hs ⟨va_cnB (ws' := wsL_law) n hts (wsOf_good f1) rfl rfl rfl (C.2.2.2.2.2.2.2.1.2.1 _ ml) (hts _ f2) f3 rm, hts _ f4, hts _ f5⟩
      ⟨blindP g M _, by rw [← hcl]; exact va_recv C.2.2.2.2.2.2.2.1.1 P hq he, preP C.2.2.2.2.2.2.2.1 C.2.2.2.2.2.2.2.2 D P S⟩ rfl hn L.1 hst (lv_room hW) d ⟨Nat.le_refl 0, Nat.le_refl 0⟩
theorem wp_callS {μ' : MD} {idx n : Nat} {As rest : List Value} {Q' : Option Value → Mem → Prop} (d : decode μ.2.1 pc = .ok (.invokestatic idx, 3)) (hpc : pc' = pc + 3) (ml : ML μ.1.cls idx μ'.1) (cf : CFS μ' n) (rm : RM μ μ') (hs : Spec g μ' As M Q') (hn : As.length = n) (hst : st = As.reverse ++ rest) (hW : (rest.map fun v => v.category).sum ≤ 8)
    (k : ∀ r M', Q' r M' → wp g μ pc' ls (r.toList ++ rest) M' Q) : wp g μ pc ls st M Q := by
  subst hpc
  intro p e s m args below meth c H locs lsA C D P S L
  obtain ⟨⟨f1, f2, f3⟩, f4⟩ := cf
  have hts := C.2.2.2.2.2.1
  refine W_run (rest := rest) (a := As.toArray) (Q' := Q') ?_ S (fun r M' h H1 locs1 P1 S1 => k r M' h p e s m args below meth c H1 locs1 lsA C (world_D g M M' D) P1 S1 L)
  rcases ml with ml | ml
  · exact va_runS (As := As) (rest := rest) ⟨C.1, C.2.1, C.2.2.2.1, C.2.2.2.2.1, hts⟩ hs ⟨callB_of (ws' := wsL_law) n hts (wsOf_good f1) rfl rfl rfl (hts _ f2) (hts _ ml) f3 rm, hts _ f4⟩
      ⟨blindP g M _, preP C.2.2.2.2.2.2.2.1 C.2.2.2.2.2.2.2.2 D P S⟩ rfl hn L.1 hst (lv_room hW) d ⟨Nat.le_refl 0, Nat.le_refl 0⟩
  · exact va_runSN (host := "MoorStones") (As := As) (rest := rest) ⟨C.1, C.2.1, C.2.2.2.1, C.2.2.2.2.1, hts⟩ hs ⟨va_cnB (ws' := wsL_law) n hts (wsOf_good f1) rfl rfl rfl (C.2.2.2.2.2.2.2.1.2.1 _ ml) (hts _ f2) f3 rm, hts _ f4, trivial⟩
      ⟨blindP g M _, preP C.2.2.2.2.2.2.2.1 C.2.2.2.2.2.2.2.2 D P S⟩ rfl hn L.1 hst (lv_room hW) d ⟨Nat.le_refl 0, Nat.le_refl 0⟩
/-! answers that are told -/
def RI (g : GG) (μ : MD) (vs : List Value) (M : Mem) (v : Int32) (M' : Mem) : Prop := Spec g μ vs M (fun r m => r = some (.int v) ∧ m = M')
def RV (g : GG) (μ : MD) (vs : List Value) (M : Mem) (M' : Mem) : Prop := Spec g μ vs M (fun r m => r = none ∧ m = M')
def RO (g : GG) (μ : MD) (vs : List Value) (M : Mem) (o : Nat) (M' : Mem) : Prop := Spec g μ vs M (fun r m => r = some (ob g o) ∧ m = M')
def RL_ (g : GG) (μ : MD) (vs : List Value) (M : Mem) (v : Int64) (M' : Mem) : Prop := Spec g μ vs M (fun r m => r = some (.long v) ∧ m = M')
def SI (g : GG) (μ : MD) (vs : List Value) (M : Mem) (Qi : Int32 → Mem → Prop) : Prop := Spec g μ vs M (fun r m => ∃ x : Int32, r = some (.int x) ∧ Qi x m)
def SV (g : GG) (μ : MD) (vs : List Value) (M : Mem) (Qi : Mem → Prop) : Prop := Spec g μ vs M (fun r m => r = none ∧ Qi m)
theorem wp_cVI {μ' : MD} {idx n o ci : Nat} {fs As rest : List Value} {v : Int32} {M' : Mem} {q : vw_C} (d : decode μ.2.1 pc = .ok (.invokevirtual idx, 3)) (hpc : pc' = pc + 3) (ml : ML μ.1.cls idx μ'.1) (cf : CFV μ' n) (rm : RM μ μ') (hs : RI g μ' (ob g o :: As) M v M') (ho : o < 38) (hc : cell_ g o (M.1 o) (M.2 o) = .inr (ci, fs)) (hq : vwCl[ci]? = some q) (hcl : q.1 = μ'.1.cls) (hn : As.length = n) (hst : st = As.reverse ++ ob g o :: rest) (hW : (rest.map fun v => v.category).sum ≤ 8)
    (k : wp g μ pc' ls (.int v :: rest) M' Q) : wp g μ pc ls st M Q :=
  wp_callV d hpc ml cf rm hs ho hc hq hcl hn hst hW (fun r m h => by rw [h.1, h.2]; exact k)
theorem wp_cVL {μ' : MD} {idx n o ci : Nat} {fs As rest : List Value} {v : Int64} {M' : Mem} {q : vw_C} (d : decode μ.2.1 pc = .ok (.invokevirtual idx, 3)) (hpc : pc' = pc + 3) (ml : ML μ.1.cls idx μ'.1) (cf : CFV μ' n) (rm : RM μ μ') (hs : RL_ g μ' (ob g o :: As) M v M') (ho : o < 38) (hc : cell_ g o (M.1 o) (M.2 o) = .inr (ci, fs)) (hq : vwCl[ci]? = some q) (hcl : q.1 = μ'.1.cls) (hn : As.length = n) (hst : st = As.reverse ++ ob g o :: rest) (hW : (rest.map fun v => v.category).sum ≤ 8)
    (k : wp g μ pc' ls (.long v :: rest) M' Q) : wp g μ pc ls st M Q :=
  wp_callV d hpc ml cf rm hs ho hc hq hcl hn hst hW (fun r m h => by rw [h.1, h.2]; exact k)
theorem wp_cVO {μ' : MD} {idx n o ci o2 : Nat} {fs As rest : List Value} {M' : Mem} {q : vw_C} (d : decode μ.2.1 pc = .ok (.invokevirtual idx, 3)) (hpc : pc' = pc + 3) (ml : ML μ.1.cls idx μ'.1) (cf : CFV μ' n) (rm : RM μ μ') (hs : RO g μ' (ob g o :: As) M o2 M') (ho : o < 38) (hc : cell_ g o (M.1 o) (M.2 o) = .inr (ci, fs)) (hq : vwCl[ci]? = some q) (hcl : q.1 = μ'.1.cls) (hn : As.length = n) (hst : st = As.reverse ++ ob g o :: rest) (hW : (rest.map fun v => v.category).sum ≤ 8)
    (k : wp g μ pc' ls (ob g o2 :: rest) M' Q) : wp g μ pc ls st M Q :=
  wp_callV d hpc ml cf rm hs ho hc hq hcl hn hst hW (fun r m h => by rw [h.1, h.2]; exact k)
theorem wp_cVV {μ' : MD} {idx n o ci : Nat} {fs As rest : List Value} {M' : Mem} {q : vw_C} (d : decode μ.2.1 pc = .ok (.invokevirtual idx, 3)) (hpc : pc' = pc + 3) (ml : ML μ.1.cls idx μ'.1) (cf : CFV μ' n) (rm : RM μ μ') (hs : RV g μ' (ob g o :: As) M M') (ho : o < 38) (hc : cell_ g o (M.1 o) (M.2 o) = .inr (ci, fs)) (hq : vwCl[ci]? = some q) (hcl : q.1 = μ'.1.cls) (hn : As.length = n) (hst : st = As.reverse ++ ob g o :: rest) (hW : (rest.map fun v => v.category).sum ≤ 8)
    (k : wp g μ pc' ls rest M' Q) : wp g μ pc ls st M Q :=
  wp_callV d hpc ml cf rm hs ho hc hq hcl hn hst hW (fun r m h => by rw [h.1, h.2]; exact k)
theorem wp_sVI {μ' : MD} {idx n o ci : Nat} {fs As rest : List Value} {Qi : Int32 → Mem → Prop} {q : vw_C} (d : decode μ.2.1 pc = .ok (.invokevirtual idx, 3)) (hpc : pc' = pc + 3) (ml : ML μ.1.cls idx μ'.1) (cf : CFV μ' n) (rm : RM μ μ') (hs : SI g μ' (ob g o :: As) M Qi) (ho : o < 38) (hc : cell_ g o (M.1 o) (M.2 o) = .inr (ci, fs)) (hq : vwCl[ci]? = some q) (hcl : q.1 = μ'.1.cls) (hn : As.length = n) (hst : st = As.reverse ++ ob g o :: rest) (hW : (rest.map fun v => v.category).sum ≤ 8)
    (k : ∀ (x : Int32) (M' : Mem), Qi x M' → wp g μ pc' ls (.int x :: rest) M' Q) : wp g μ pc ls st M Q :=
  wp_callV d hpc ml cf rm hs ho hc hq hcl hn hst hW (fun r m ⟨x, h1, h2⟩ => by rw [h1]; exact k x m h2)
theorem wp_sVV {μ' : MD} {idx n o ci : Nat} {fs As rest : List Value} {Qi : Mem → Prop} {q : vw_C} (d : decode μ.2.1 pc = .ok (.invokevirtual idx, 3)) (hpc : pc' = pc + 3) (ml : ML μ.1.cls idx μ'.1) (cf : CFV μ' n) (rm : RM μ μ') (hs : SV g μ' (ob g o :: As) M Qi) (ho : o < 38) (hc : cell_ g o (M.1 o) (M.2 o) = .inr (ci, fs)) (hq : vwCl[ci]? = some q) (hcl : q.1 = μ'.1.cls) (hn : As.length = n) (hst : st = As.reverse ++ ob g o :: rest) (hW : (rest.map fun v => v.category).sum ≤ 8)
    (k : ∀ (M' : Mem), Qi M' → wp g μ pc' ls rest M' Q) : wp g μ pc ls st M Q :=
  wp_callV d hpc ml cf rm hs ho hc hq hcl hn hst hW (fun r m ⟨h1, h2⟩ => by rw [h1]; exact k m h2)
theorem wp_cSI {μ' : MD} {idx n : Nat} {As rest : List Value} {v : Int32} {M' : Mem} (d : decode μ.2.1 pc = .ok (.invokestatic idx, 3)) (hpc : pc' = pc + 3) (ml : ML μ.1.cls idx μ'.1) (cf : CFS μ' n) (rm : RM μ μ') (hs : RI g μ' As M v M') (hn : As.length = n) (hst : st = As.reverse ++ rest) (hW : (rest.map fun v => v.category).sum ≤ 8)
    (k : wp g μ pc' ls (.int v :: rest) M' Q) : wp g μ pc ls st M Q :=
  wp_callS d hpc ml cf rm hs hn hst hW (fun r m h => by rw [h.1, h.2]; exact k)
theorem wp_cSV {μ' : MD} {idx n : Nat} {As rest : List Value} {M' : Mem} (d : decode μ.2.1 pc = .ok (.invokestatic idx, 3)) (hpc : pc' = pc + 3) (ml : ML μ.1.cls idx μ'.1) (cf : CFS μ' n) (rm : RM μ μ') (hs : RV g μ' As M M') (hn : As.length = n) (hst : st = As.reverse ++ rest) (hW : (rest.map fun v => v.category).sum ≤ 8)
    (k : wp g μ pc' ls rest M' Q) : wp g μ pc ls st M Q :=
  wp_callS d hpc ml cf rm hs hn hst hW (fun r m h => by rw [h.1, h.2]; exact k)
/-! Math.max, Math.min, System.arraycopy -/
theorem mm_max : Cond.static Lib.Math.max.name ∈ wsL_law ∧ Cond.code Lib.Math.max.name Lib.Math.max.code 2 (some .int) ∈ wsL_law := ⟨List.mem_of_getElem? (i := 618) (by decide +kernel), List.mem_of_getElem? (i := 619) (by decide +kernel)⟩
theorem mm_min : Cond.static Lib.Math.min.name ∈ wsL_law ∧ Cond.code Lib.Math.min.name Lib.Math.min.code 2 (some .int) ∈ wsL_law := ⟨List.mem_of_getElem? (i := 261) (by decide +kernel), List.mem_of_getElem? (i := 263) (by decide +kernel)⟩
theorem mm_ini : Cond.initialized "java/lang/Math" ∈ wsL_law := List.mem_of_getElem? (i := 262) (by decide +kernel)
theorem mm_sys : Cond.native arraycopyName ∈ wsL_law ∧ Cond.static arraycopyName ∈ wsL_law ∧ Cond.initialized "java/lang/System" ∈ wsL_law := ⟨List.mem_of_getElem? (i := 265) (by decide +kernel), List.mem_of_getElem? (i := 266) (by decide +kernel), List.mem_of_getElem? (i := 267) (by decide +kernel)⟩
theorem wp_mmax {idx : Nat} {x y : Int32} (d : decode μ.2.1 pc = .ok (.invokestatic idx, 3)) (hpc : pc' = pc + 3) (ml : Cond.methodLink μ.1.cls idx Lib.Math.max.name ∈ wsL_law) (hf : 1 ≤ μ.2.2.2.2.1) (hlo : (st.map fun v => v.category).sum + 13 ≤ μ.2.2.2.2.2) (k : wp g μ pc' ls (.int (if x < y then y else x) :: st) M Q) : wp g μ pc ls (.int y :: .int x :: st) M Q := by
  subst hpc
  intro p e s m args below meth c H locs lsA C D P S L
  have hts := C.2.2.2.2.2.1
  exact va_mmax C.1 C.2.1 (C.2.2.2.1.trans L.1.symm) C.2.2.2.2.1 (hts _ ml) (hts _ mm_max.1) (hts _ mm_ini) (hts _ mm_max.2) hf hlo (Nat.le_refl 0) (Nat.le_refl 0) d (k p e s m args below meth c H locs lsA C D P S L)
theorem wp_mmin {idx : Nat} {x y : Int32} (d : decode μ.2.1 pc = .ok (.invokestatic idx, 3)) (hpc : pc' = pc + 3) (ml : Cond.methodLink μ.1.cls idx Lib.Math.min.name ∈ wsL_law) (hf : 1 ≤ μ.2.2.2.2.1) (hlo : (st.map fun v => v.category).sum + 13 ≤ μ.2.2.2.2.2) (k : wp g μ pc' ls (.int (if y < x then y else x) :: st) M Q) : wp g μ pc ls (.int y :: .int x :: st) M Q := by
  subst hpc
  intro p e s m args below meth c H locs lsA C D P S L
  have hts := C.2.2.2.2.2.1
  exact va_mmin C.1 C.2.1 (C.2.2.2.1.trans L.1.symm) C.2.2.2.2.1 (hts _ ml) (hts _ mm_min.1) (hts _ mm_ini) (hts _ mm_min.2) hf hlo (Nat.le_refl 0) (Nat.le_refl 0) d (k p e s m args below meth c H locs lsA C D P S L)
def ArrO (o n : Nat) : Prop := o < 38 ∧ n < 2 ^ 31 ∧ ∀ (g : GG) (f : Nat → Int32) (t : Int64), cell_ g o f t = .inl (g_cI g, n, .inl f)
theorem wp_copy {idx o1 o2 n1 n2 : Nat} {sp dp n : Int32} (d : decode μ.2.1 pc = .ok (.invokestatic idx, 3)) (hpc : pc' = pc + 3) (ml : Cond.methodLink μ.1.cls idx arraycopyName ∈ wsL_law) (A1 : ArrO o1 n1) (A2 : ArrO o2 n2) (h1 : ¬ sp < 0) (h2 : ¬ dp < 0) (h3 : ¬ n < 0) (h4 : sp.toNatClampNeg + n.toNatClampNeg ≤ n1) (h5 : dp.toNatClampNeg + n.toNatClampNeg ≤ n2) (hf : 1 ≤ μ.2.2.2.2.1) (hlo : (st.map fun v => v.category).sum + (nativeFrameWords "java/lang/System" "arraycopy" 5 + 11) ≤ μ.2.2.2.2.2) (k : wp g μ pc' ls st (setO M o2 (va_cpy (M.1 o1) (M.1 o2) sp.toNatClampNeg dp.toNatClampNeg n.toNatClampNeg)) Q) : wp g μ pc ls (.int n :: .int dp :: ob g o2 :: .int sp :: ob g o1 :: st) M Q := by
  subst hpc
  intro p e s m args below meth c H locs lsA C D P S L
  have hts := C.2.2.2.2.2.1
  have e1 := world_get g M A1.1
  have e2 := world_get g M A2.1
  rw [A1.2.2] at e1
  rw [A2.2.2] at e2
  exact va_copyi C.1 C.2.1 (C.2.2.2.1.trans L.1.symm) C.2.2.2.2.1 (hts _ ml) (hts _ mm_sys.1) (hts _ mm_sys.2.1) (hts _ mm_sys.2.2) C.2.2.2.2.2.2.2.1.1 P D S o1 o2 0 0 (ty := .int) e1 e2 rfl rfl rfl h1 h2 h3 h4 h5 (fun _ _ => rfl) hf hlo d (fun H1 locs1 P1 D1 S1 => by
    rw [world_set g M (setO M o2 (va_cpy (M.1 o1) (M.1 o2) sp.toNatClampNeg dp.toNatClampNeg n.toNatClampNeg)) A2.1 (by rw [A2.2.2, setO_eq]) (fun a h => setO_ne M o2 _ h)] at P1
    exact k p e s m args below meth c H1 locs1 lsA C (world_D g M _ D) P1 S1 L)
/-! String constants -/
def strLen : List Nat := [3, 6, 4]
def strB : List (List Int32) := [[114, 111, 119], [119, 97, 108, 107, 101, 114], [115, 105, 110, 107]]
theorem wp_ldcw {idx : Nat} (v : Int32) (d : decode μ.2.1 pc = .ok (.ldc_w idx, 3)) (hpc : pc' = pc + 3) (hm : Cond.constant μ.1.cls idx v ∈ wsL_law) (k : wp g μ pc' ls (.int v :: st) M Q) : wp g μ pc ls st M Q := by
  subst hpc
  intro p e s m args below meth c H locs lsA C D P S L
  exact lv_ldcw C.1 C.2.1 C.2.2.2.2.1 (C.2.2.2.2.2.1 _ hm) d (k p e s m args below meth c H locs lsA C D P S L)
theorem wp_i2c {x : Int32} (d : decode μ.2.1 pc = .ok (.i2c, 1)) (hpc : pc' = pc + 1) (k : wp g μ pc' ls (.int ((x.toUInt32 % 65536).toInt32) :: st) M Q) : wp g μ pc ls (.int x :: st) M Q := by
  subst hpc
  intro p e s m args below meth c H locs lsA C D P S L
  exact lv_i2c C.1 C.2.1 d rfl (k p e s m args below meth c H locs lsA C D P S L)
theorem wp_ldcs {idx i : Nat} {tx : String} (d : decode μ.2.1 pc = .ok (.ldc idx, 2)) (hpc : pc' = pc + 2) (hr : ∀ s, EnvG g s → vk_R μ.1.cls idx tx (g_aK g i) s) (k : wp g μ pc' ls (sk g i :: st) M Q) : wp g μ pc ls st M Q := by
  subst hpc
  intro p e s m args below meth c H locs lsA C D P S L
  exact va_ldcS C.1 C.2.1 C.2.2.2.2.1 (hr s C.2.2.2.2.2.2.2.1) d (k p e s m args below meth c H locs lsA C D P S L)
theorem wp_kval {idx i : Nat} (d : decode μ.2.1 pc = .ok (.getfield idx, 3)) (hpc : pc' = pc + 3) (hm : Cond.fieldLink μ.1.cls idx "java/lang/String" "value" "[B" ∈ wsL_law) (hi : i < 3) (k : wp g μ pc' ls (sv g i :: st) M Q) : wp g μ pc ls (sk g i :: st) M Q := by
  subst hpc
  intro p e s m args below meth c H locs lsA C D P S L
  exact vk_getf C.1 C.2.1 (C.2.2.2.2.2.2.2.2.1.1 i hi).2.2.1 S C.2.2.2.2.1 (C.2.2.2.2.2.1 _ hm) (fun _ h => h) d (k p e s m args below meth c H locs lsA C D P S L)
theorem wp_kcod {idx i : Nat} (d : decode μ.2.1 pc = .ok (.getfield idx, 3)) (hpc : pc' = pc + 3) (hm : Cond.fieldLink μ.1.cls idx "java/lang/String" "coder" "B" ∈ wsL_law) (hi : i < 3) (k : wp g μ pc' ls (.int 0 :: st) M Q) : wp g μ pc ls (sk g i :: st) M Q := by
  subst hpc
  intro p e s m args below meth c H locs lsA C D P S L
  exact vk_getf C.1 C.2.1 (C.2.2.2.2.2.2.2.2.1.1 i hi).2.1 S C.2.2.2.2.1 (C.2.2.2.2.2.1 _ hm) (fun _ h => h) d (k p e s m args below meth c H locs lsA C D P S L)
theorem wp_klen {i : Nat} {v : Int32} (d : decode μ.2.1 pc = .ok (.arraylength, 1)) (hpc : pc' = pc + 1) (hi : i < 3) (hv : Int32.ofNat (strLen.getD i 0) = v) (k : wp g μ pc' ls (.int v :: st) M Q) : wp g μ pc ls (sv g i :: st) M Q := by
  subst hpc
  intro p e s m args below meth c H locs lsA C D P S L
  exact va_tlen C.1 C.2.1 (C.2.2.2.2.2.2.2.2.1.1 i hi).2.2.2 S hv d (k p e s m args below meth c H locs lsA C D P S L)
theorem wp_kbald {i : Nat} {j v : Int32} (d : decode μ.2.1 pc = .ok (.baload, 1)) (hpc : pc' = pc + 1) (hi : i < 3) (hin : vp_in j (strLen.getD i 0)) (hv : (strB.getD i []).getD j.toNatClampNeg 0 = v) (k : wp g μ pc' ls (.int v :: st) M Q) : wp g μ pc ls (.int j :: sv g i :: st) M Q := by
  subst hpc
  intro p e s m args below meth c H locs lsA C D P S L
  exact va_tb C.1 C.2.1 (C.2.2.2.2.2.2.2.2.1.1 i hi).2.2.2 S hin (v := .int v) (by show Value.int ((strB.getD i []).getD j.toNatClampNeg 0) = _; rw [hv]) d (k p e s m args below meth c H locs lsA C D P S L)
theorem wp_gcomp {idx : Nat} (d : decode μ.2.1 pc = .ok (.getstatic idx, 3)) (hpc : pc' = pc + 3) (hm : Cond.fieldLink μ.1.cls idx "java/lang/String" "COMPACT_STRINGS" "Z" ∈ wsL_law) (k : wp g μ pc' ls (.int 1 :: st) M Q) : wp g μ pc ls st M Q := by
  subst hpc
  intro p e s m args below meth c H locs lsA C D P S L
  exact va_gets C.1 C.2.1 C.2.2.2.2.2.2.2.2.2.1 S C.2.2.2.2.1 (C.2.2.2.2.2.1 _ hm) (fun _ h => h) d (k p e s m args below meth c H locs lsA C D P S L)
theorem wp_gsio {idx : Nat} (d : decode μ.2.1 pc = .ok (.getstatic idx, 3)) (hpc : pc' = pc + 3) (hm : Cond.fieldLink μ.1.cls idx "jdk/internal/util/Preconditions" "SIOOBE_FORMATTER" "Ljava/util/function/BiFunction;" ∈ wsL_law) (k : ∀ v : Value, (v = .null ∨ ∃ t : Nat, v = .ref t) → wp g μ pc' ls (v :: st) M Q) : wp g μ pc ls st M Q := by
  subst hpc
  intro p e s m args below meth c H locs lsA C D P S L
  rcases C.2.2.2.2.2.2.2.2.2.2 with h | ⟨t, h⟩
  · exact va_gets C.1 C.2.1 h S C.2.2.2.2.1 (C.2.2.2.2.2.1 _ hm) (fun _ h => h) d (k _ (Or.inl rfl) p e s m args below meth c H locs lsA C D P S L)
  · exact va_gets C.1 C.2.1 h S C.2.2.2.2.1 (C.2.2.2.2.2.1 _ hm) (fun _ h => h) d (k _ (Or.inr ⟨t, rfl⟩) p e s m args below meth c H locs lsA C D P S L)
theorem wp_callK {μ' : MD} {idx n i : Nat} {As rest : List Value} {v : Int32} (d : decode μ.2.1 pc = .ok (.invokevirtual idx, 3)) (hpc : pc' = pc + 3) (ml : ML μ.1.cls idx μ'.1) (cf : CFV μ' n) (rm : RM μ μ') (hs : RI g μ' (sk g i :: As) M v M) (hi : i < 3) (hcl : "java/lang/String" = μ'.1.cls) (hn : As.length = n) (hst : st = As.reverse ++ sk g i :: rest) (hW : (rest.map fun v => v.category).sum ≤ 8)
    (k : wp g μ pc' ls (.int v :: rest) M Q) : wp g μ pc ls st M Q := by
  subst hpc
  intro p e s m args below meth c H locs lsA C D P S L
  obtain ⟨⟨f1, f2, f3⟩, f4, f5⟩ := cf
  have hts := C.2.2.2.2.2.1
  refine W_run (rest := rest) (a := (sk g i :: As).toArray) (Q' := fun r m => r = some (.int v) ∧ m = M) ?_ S (fun r M' h H1 locs1 P1 S1 => by
    obtain ⟨rfl, rfl⟩ := h
    exact k p e s m args below meth c H1 locs1 lsA C D P1 S1 L)
  have hrec : ∃ cell : Cell, H[g_aK g i]? = some cell ∧ cell.vm.isStatics = false ∧ s.vm.findClass μ'.1.cls = some cell.cls := by
    rw [← hcl]
    exact vk_recv C.2.2.2.2.2.2.2.2.1 hi S
  rcases ml with ml | ml
  · exact va_runV (C := μ'.1.cls) (b := g_aK g i) (As := As) (rest := rest) ⟨C.1, C.2.1, C.2.2.2.1, C.2.2.2.2.1, hts⟩ hs ⟨callB_of (ws' := wsL_law) n hts (wsOf_good f1) rfl rfl rfl (hts _ f2) (hts _ ml) f3 rm, hts _ f4, hts _ f5⟩
      ⟨blindP g M _, hrec, preP C.2.2.2.2.2.2.2.1 C.2.2.2.2.2.2.2.2 D P S⟩ rfl hn L.1 hst (lv_room hW) d ⟨Nat.le_refl 0, Nat.le_refl 0⟩
  · exact va_runVN (host := "MoorStones") (C := μ'.1.cls) (b := g_aK g i) (As := As) (rest := rest) ⟨C.1, C.2.1, C.2.2.2.1, C.2.2.2.2.1, hts⟩ hs ⟨va_cnB (ws' := wsL_law) n hts (wsOf_good f1) rfl rfl rfl (C.2.2.2.2.2.2.2.1.2.1 _ ml) (hts _ f2) f3 rm, hts _ f4, hts _ f5⟩
      ⟨blindP g M _, hrec, preP C.2.2.2.2.2.2.2.1 C.2.2.2.2.2.2.2.2 D P S⟩ rfl hn L.1 hst (lv_room hW) d ⟨Nat.le_refl 0, Nat.le_refl 0⟩

end WPR
end
section
theorem wR1 : ∀ w ∈ wsL_law_r1, w ∈ wsL_law := fun _ h => (List.mem_append_left _ (List.mem_append_left _ (List.mem_append_left _ (List.mem_append_left _ (List.mem_append_left _ (List.mem_append_left _ (List.mem_append_left _ (List.mem_append_left _ (List.mem_append_left _ (List.mem_append_left _ h))))))))))
theorem wR2 : ∀ w ∈ wsL_law_r2, w ∈ wsL_law := fun _ h => (List.mem_append_left _ (List.mem_append_left _ (List.mem_append_left _ (List.mem_append_left _ (List.mem_append_left _ (List.mem_append_left _ (List.mem_append_left _ (List.mem_append_left _ (List.mem_append_left _ (List.mem_append_right _ (List.mem_append_left _ h)))))))))))
theorem wR3 : ∀ w ∈ wsL_law_r3, w ∈ wsL_law := fun _ h => (List.mem_append_left _ (List.mem_append_left _ (List.mem_append_left _ (List.mem_append_left _ (List.mem_append_left _ (List.mem_append_left _ (List.mem_append_left _ (List.mem_append_left _ (List.mem_append_left _ (List.mem_append_right _ (List.mem_append_right _ (List.mem_append_left _ h))))))))))))
theorem wR4 : ∀ w ∈ wsL_law_r4, w ∈ wsL_law := fun _ h => (List.mem_append_left _ (List.mem_append_left _ (List.mem_append_left _ (List.mem_append_left _ (List.mem_append_left _ (List.mem_append_left _ (List.mem_append_left _ (List.mem_append_left _ (List.mem_append_left _ (List.mem_append_right _ (List.mem_append_right _ (List.mem_append_right _ (List.mem_append_left _ h)))))))))))))
theorem wR5 : ∀ w ∈ wsL_law_r5, w ∈ wsL_law := fun _ h => (List.mem_append_left _ (List.mem_append_left _ (List.mem_append_left _ (List.mem_append_left _ (List.mem_append_left _ (List.mem_append_left _ (List.mem_append_left _ (List.mem_append_left _ (List.mem_append_left _ (List.mem_append_right _ (List.mem_append_right _ (List.mem_append_right _ (List.mem_append_right _ (List.mem_append_left _ h))))))))))))))
theorem wR6 : ∀ w ∈ wsL_law_r6, w ∈ wsL_law := fun _ h => (List.mem_append_left _ (List.mem_append_left _ (List.mem_append_left _ (List.mem_append_left _ (List.mem_append_left _ (List.mem_append_left _ (List.mem_append_left _ (List.mem_append_left _ (List.mem_append_left _ (List.mem_append_right _ (List.mem_append_right _ (List.mem_append_right _ (List.mem_append_right _ (List.mem_append_right _ (List.mem_append_left _ h)))))))))))))))
theorem wR7 : ∀ w ∈ wsL_law_r7, w ∈ wsL_law := fun _ h => (List.mem_append_left _ (List.mem_append_left _ (List.mem_append_left _ (List.mem_append_left _ (List.mem_append_left _ (List.mem_append_left _ (List.mem_append_left _ (List.mem_append_left _ (List.mem_append_left _ (List.mem_append_right _ (List.mem_append_right _ (List.mem_append_right _ (List.mem_append_right _ (List.mem_append_right _ (List.mem_append_right _ (List.mem_append_left _ h))))))))))))))))
theorem wR8 : ∀ w ∈ wsL_law_r8, w ∈ wsL_law := fun _ h => (List.mem_append_left _ (List.mem_append_left _ (List.mem_append_left _ (List.mem_append_left _ (List.mem_append_left _ (List.mem_append_left _ (List.mem_append_left _ (List.mem_append_left _ (List.mem_append_left _ (List.mem_append_right _ (List.mem_append_right _ (List.mem_append_right _ (List.mem_append_right _ (List.mem_append_right _ (List.mem_append_right _ (List.mem_append_right _ (List.mem_append_left _ h)))))))))))))))))
theorem wR9 : ∀ w ∈ wsL_law_r9, w ∈ wsL_law := fun _ h => (List.mem_append_left _ (List.mem_append_left _ (List.mem_append_left _ (List.mem_append_left _ (List.mem_append_left _ (List.mem_append_left _ (List.mem_append_left _ (List.mem_append_left _ (List.mem_append_left _ (List.mem_append_right _ (List.mem_append_right _ (List.mem_append_right _ (List.mem_append_right _ (List.mem_append_right _ (List.mem_append_right _ (List.mem_append_right _ (List.mem_append_right _ (List.mem_append_left _ h))))))))))))))))))
theorem wR10 : ∀ w ∈ wsL_law_r10, w ∈ wsL_law := fun _ h => (List.mem_append_left _ (List.mem_append_left _ (List.mem_append_left _ (List.mem_append_left _ (List.mem_append_left _ (List.mem_append_left _ (List.mem_append_left _ (List.mem_append_left _ (List.mem_append_left _ (List.mem_append_right _ (List.mem_append_right _ (List.mem_append_right _ (List.mem_append_right _ (List.mem_append_right _ (List.mem_append_right _ (List.mem_append_right _ (List.mem_append_right _ (List.mem_append_right _ (List.mem_append_left _ h)))))))))))))))))))
theorem wR11 : ∀ w ∈ wsL_law_r11, w ∈ wsL_law := fun _ h => (List.mem_append_left _ (List.mem_append_left _ (List.mem_append_left _ (List.mem_append_left _ (List.mem_append_left _ (List.mem_append_left _ (List.mem_append_left _ (List.mem_append_left _ (List.mem_append_left _ (List.mem_append_right _ (List.mem_append_right _ (List.mem_append_right _ (List.mem_append_right _ (List.mem_append_right _ (List.mem_append_right _ (List.mem_append_right _ (List.mem_append_right _ (List.mem_append_right _ (List.mem_append_right _ (List.mem_append_left _ h))))))))))))))))))))
theorem wR12 : ∀ w ∈ wsL_law_r12, w ∈ wsL_law := fun _ h => (List.mem_append_left _ (List.mem_append_left _ (List.mem_append_left _ (List.mem_append_left _ (List.mem_append_left _ (List.mem_append_left _ (List.mem_append_left _ (List.mem_append_left _ (List.mem_append_left _ (List.mem_append_right _ (List.mem_append_right _ (List.mem_append_right _ (List.mem_append_right _ (List.mem_append_right _ (List.mem_append_right _ (List.mem_append_right _ (List.mem_append_right _ (List.mem_append_right _ (List.mem_append_right _ (List.mem_append_right _ (List.mem_append_left _ h)))))))))))))))))))))
theorem wR13 : ∀ w ∈ wsL_law_r13, w ∈ wsL_law := fun _ h => (List.mem_append_left _ (List.mem_append_left _ (List.mem_append_left _ (List.mem_append_left _ (List.mem_append_left _ (List.mem_append_left _ (List.mem_append_left _ (List.mem_append_left _ (List.mem_append_left _ (List.mem_append_right _ (List.mem_append_right _ (List.mem_append_right _ (List.mem_append_right _ (List.mem_append_right _ (List.mem_append_right _ (List.mem_append_right _ (List.mem_append_right _ (List.mem_append_right _ (List.mem_append_right _ (List.mem_append_right _ (List.mem_append_right _ (List.mem_append_left _ h))))))))))))))))))))))
theorem wR14 : ∀ w ∈ wsL_law_r14, w ∈ wsL_law := fun _ h => (List.mem_append_left _ (List.mem_append_left _ (List.mem_append_left _ (List.mem_append_left _ (List.mem_append_left _ (List.mem_append_left _ (List.mem_append_left _ (List.mem_append_left _ (List.mem_append_left _ (List.mem_append_right _ (List.mem_append_right _ (List.mem_append_right _ (List.mem_append_right _ (List.mem_append_right _ (List.mem_append_right _ (List.mem_append_right _ (List.mem_append_right _ (List.mem_append_right _ (List.mem_append_right _ (List.mem_append_right _ (List.mem_append_right _ (List.mem_append_right _ (List.mem_append_left _ h)))))))))))))))))))))))
theorem wR15 : ∀ w ∈ wsL_law_r15, w ∈ wsL_law := fun _ h => (List.mem_append_left _ (List.mem_append_left _ (List.mem_append_left _ (List.mem_append_left _ (List.mem_append_left _ (List.mem_append_left _ (List.mem_append_left _ (List.mem_append_left _ (List.mem_append_left _ (List.mem_append_right _ (List.mem_append_right _ (List.mem_append_right _ (List.mem_append_right _ (List.mem_append_right _ (List.mem_append_right _ (List.mem_append_right _ (List.mem_append_right _ (List.mem_append_right _ (List.mem_append_right _ (List.mem_append_right _ (List.mem_append_right _ (List.mem_append_right _ (List.mem_append_right _ (List.mem_append_left _ h))))))))))))))))))))))))
theorem wR16 : ∀ w ∈ wsL_law_r16, w ∈ wsL_law := fun _ h => (List.mem_append_left _ (List.mem_append_left _ (List.mem_append_left _ (List.mem_append_left _ (List.mem_append_left _ (List.mem_append_left _ (List.mem_append_left _ (List.mem_append_left _ (List.mem_append_left _ (List.mem_append_right _ (List.mem_append_right _ (List.mem_append_right _ (List.mem_append_right _ (List.mem_append_right _ (List.mem_append_right _ (List.mem_append_right _ (List.mem_append_right _ (List.mem_append_right _ (List.mem_append_right _ (List.mem_append_right _ (List.mem_append_right _ (List.mem_append_right _ (List.mem_append_right _ (List.mem_append_right _ (List.mem_append_left _ h)))))))))))))))))))))))))
theorem wR17 : ∀ w ∈ wsL_law_r17, w ∈ wsL_law := fun _ h => (List.mem_append_left _ (List.mem_append_left _ (List.mem_append_left _ (List.mem_append_left _ (List.mem_append_left _ (List.mem_append_left _ (List.mem_append_left _ (List.mem_append_left _ (List.mem_append_left _ (List.mem_append_right _ (List.mem_append_right _ (List.mem_append_right _ (List.mem_append_right _ (List.mem_append_right _ (List.mem_append_right _ (List.mem_append_right _ (List.mem_append_right _ (List.mem_append_right _ (List.mem_append_right _ (List.mem_append_right _ (List.mem_append_right _ (List.mem_append_right _ (List.mem_append_right _ (List.mem_append_right _ (List.mem_append_right _ (List.mem_append_left _ h))))))))))))))))))))))))))
theorem wR18 : ∀ w ∈ wsL_law_r18, w ∈ wsL_law := fun _ h => (List.mem_append_left _ (List.mem_append_left _ (List.mem_append_left _ (List.mem_append_left _ (List.mem_append_left _ (List.mem_append_left _ (List.mem_append_left _ (List.mem_append_left _ (List.mem_append_left _ (List.mem_append_right _ (List.mem_append_right _ (List.mem_append_right _ (List.mem_append_right _ (List.mem_append_right _ (List.mem_append_right _ (List.mem_append_right _ (List.mem_append_right _ (List.mem_append_right _ (List.mem_append_right _ (List.mem_append_right _ (List.mem_append_right _ (List.mem_append_right _ (List.mem_append_right _ (List.mem_append_right _ (List.mem_append_right _ (List.mem_append_right _ (List.mem_append_left _ h)))))))))))))))))))))))))))
theorem wR19 : ∀ w ∈ wsL_law_r19, w ∈ wsL_law := fun _ h => (List.mem_append_left _ (List.mem_append_left _ (List.mem_append_left _ (List.mem_append_left _ (List.mem_append_left _ (List.mem_append_left _ (List.mem_append_left _ (List.mem_append_left _ (List.mem_append_left _ (List.mem_append_right _ (List.mem_append_right _ (List.mem_append_right _ (List.mem_append_right _ (List.mem_append_right _ (List.mem_append_right _ (List.mem_append_right _ (List.mem_append_right _ (List.mem_append_right _ (List.mem_append_right _ (List.mem_append_right _ (List.mem_append_right _ (List.mem_append_right _ (List.mem_append_right _ (List.mem_append_right _ (List.mem_append_right _ (List.mem_append_right _ (List.mem_append_right _ (List.mem_append_left _ h))))))))))))))))))))))))))))
theorem wR20 : ∀ w ∈ wsL_law_r20, w ∈ wsL_law := fun _ h => (List.mem_append_left _ (List.mem_append_left _ (List.mem_append_left _ (List.mem_append_left _ (List.mem_append_left _ (List.mem_append_left _ (List.mem_append_left _ (List.mem_append_left _ (List.mem_append_left _ (List.mem_append_right _ (List.mem_append_right _ (List.mem_append_right _ (List.mem_append_right _ (List.mem_append_right _ (List.mem_append_right _ (List.mem_append_right _ (List.mem_append_right _ (List.mem_append_right _ (List.mem_append_right _ (List.mem_append_right _ (List.mem_append_right _ (List.mem_append_right _ (List.mem_append_right _ (List.mem_append_right _ (List.mem_append_right _ (List.mem_append_right _ (List.mem_append_right _ (List.mem_append_right _ (List.mem_append_left _ h)))))))))))))))))))))))))))))
theorem wR21 : ∀ w ∈ wsL_law_r21, w ∈ wsL_law := fun _ h => (List.mem_append_left _ (List.mem_append_left _ (List.mem_append_left _ (List.mem_append_left _ (List.mem_append_left _ (List.mem_append_left _ (List.mem_append_left _ (List.mem_append_left _ (List.mem_append_left _ (List.mem_append_right _ (List.mem_append_right _ (List.mem_append_right _ (List.mem_append_right _ (List.mem_append_right _ (List.mem_append_right _ (List.mem_append_right _ (List.mem_append_right _ (List.mem_append_right _ (List.mem_append_right _ (List.mem_append_right _ (List.mem_append_right _ (List.mem_append_right _ (List.mem_append_right _ (List.mem_append_right _ (List.mem_append_right _ (List.mem_append_right _ (List.mem_append_right _ (List.mem_append_right _ (List.mem_append_right _ (List.mem_append_left _ h))))))))))))))))))))))))))))))
theorem wR22 : ∀ w ∈ wsL_law_r22, w ∈ wsL_law := fun _ h => (List.mem_append_left _ (List.mem_append_left _ (List.mem_append_left _ (List.mem_append_left _ (List.mem_append_left _ (List.mem_append_left _ (List.mem_append_left _ (List.mem_append_left _ (List.mem_append_left _ (List.mem_append_right _ (List.mem_append_right _ (List.mem_append_right _ (List.mem_append_right _ (List.mem_append_right _ (List.mem_append_right _ (List.mem_append_right _ (List.mem_append_right _ (List.mem_append_right _ (List.mem_append_right _ (List.mem_append_right _ (List.mem_append_right _ (List.mem_append_right _ (List.mem_append_right _ (List.mem_append_right _ (List.mem_append_right _ (List.mem_append_right _ (List.mem_append_right _ (List.mem_append_right _ (List.mem_append_right _ (List.mem_append_right _ (List.mem_append_left _ h)))))))))))))))))))))))))))))))
theorem wR23 : ∀ w ∈ wsL_law_r23, w ∈ wsL_law := fun _ h => (List.mem_append_left _ (List.mem_append_left _ (List.mem_append_left _ (List.mem_append_left _ (List.mem_append_left _ (List.mem_append_left _ (List.mem_append_left _ (List.mem_append_left _ (List.mem_append_left _ (List.mem_append_right _ (List.mem_append_right _ (List.mem_append_right _ (List.mem_append_right _ (List.mem_append_right _ (List.mem_append_right _ (List.mem_append_right _ (List.mem_append_right _ (List.mem_append_right _ (List.mem_append_right _ (List.mem_append_right _ (List.mem_append_right _ (List.mem_append_right _ (List.mem_append_right _ (List.mem_append_right _ (List.mem_append_right _ (List.mem_append_right _ (List.mem_append_right _ (List.mem_append_right _ (List.mem_append_right _ (List.mem_append_right _ (List.mem_append_right _ (List.mem_append_left _ h))))))))))))))))))))))))))))))))
theorem wR24 : ∀ w ∈ wsL_law_r24, w ∈ wsL_law := fun _ h => (List.mem_append_left _ (List.mem_append_left _ (List.mem_append_left _ (List.mem_append_left _ (List.mem_append_left _ (List.mem_append_left _ (List.mem_append_left _ (List.mem_append_left _ (List.mem_append_left _ (List.mem_append_right _ (List.mem_append_right _ (List.mem_append_right _ (List.mem_append_right _ (List.mem_append_right _ (List.mem_append_right _ (List.mem_append_right _ (List.mem_append_right _ (List.mem_append_right _ (List.mem_append_right _ (List.mem_append_right _ (List.mem_append_right _ (List.mem_append_right _ (List.mem_append_right _ (List.mem_append_right _ (List.mem_append_right _ (List.mem_append_right _ (List.mem_append_right _ (List.mem_append_right _ (List.mem_append_right _ (List.mem_append_right _ (List.mem_append_right _ (List.mem_append_right _ (List.mem_append_left _ h)))))))))))))))))))))))))))))))))
theorem wR25 : ∀ w ∈ wsL_law_r25, w ∈ wsL_law := fun _ h => (List.mem_append_left _ (List.mem_append_left _ (List.mem_append_left _ (List.mem_append_left _ (List.mem_append_left _ (List.mem_append_left _ (List.mem_append_left _ (List.mem_append_left _ (List.mem_append_left _ (List.mem_append_right _ (List.mem_append_right _ (List.mem_append_right _ (List.mem_append_right _ (List.mem_append_right _ (List.mem_append_right _ (List.mem_append_right _ (List.mem_append_right _ (List.mem_append_right _ (List.mem_append_right _ (List.mem_append_right _ (List.mem_append_right _ (List.mem_append_right _ (List.mem_append_right _ (List.mem_append_right _ (List.mem_append_right _ (List.mem_append_right _ (List.mem_append_right _ (List.mem_append_right _ (List.mem_append_right _ (List.mem_append_right _ (List.mem_append_right _ (List.mem_append_right _ (List.mem_append_right _ (List.mem_append_left _ h))))))))))))))))))))))))))))))))))
theorem wR26 : ∀ w ∈ wsL_law_r26, w ∈ wsL_law := fun _ h => (List.mem_append_left _ (List.mem_append_left _ (List.mem_append_left _ (List.mem_append_left _ (List.mem_append_left _ (List.mem_append_left _ (List.mem_append_left _ (List.mem_append_left _ (List.mem_append_left _ (List.mem_append_right _ (List.mem_append_right _ (List.mem_append_right _ (List.mem_append_right _ (List.mem_append_right _ (List.mem_append_right _ (List.mem_append_right _ (List.mem_append_right _ (List.mem_append_right _ (List.mem_append_right _ (List.mem_append_right _ (List.mem_append_right _ (List.mem_append_right _ (List.mem_append_right _ (List.mem_append_right _ (List.mem_append_right _ (List.mem_append_right _ (List.mem_append_right _ (List.mem_append_right _ (List.mem_append_right _ (List.mem_append_right _ (List.mem_append_right _ (List.mem_append_right _ (List.mem_append_right _ (List.mem_append_right _ (List.mem_append_left _ h)))))))))))))))))))))))))))))))))))
theorem wR27 : ∀ w ∈ wsL_law_r27, w ∈ wsL_law := fun _ h => (List.mem_append_left _ (List.mem_append_left _ (List.mem_append_left _ (List.mem_append_left _ (List.mem_append_left _ (List.mem_append_left _ (List.mem_append_left _ (List.mem_append_left _ (List.mem_append_left _ (List.mem_append_right _ (List.mem_append_right _ (List.mem_append_right _ (List.mem_append_right _ (List.mem_append_right _ (List.mem_append_right _ (List.mem_append_right _ (List.mem_append_right _ (List.mem_append_right _ (List.mem_append_right _ (List.mem_append_right _ (List.mem_append_right _ (List.mem_append_right _ (List.mem_append_right _ (List.mem_append_right _ (List.mem_append_right _ (List.mem_append_right _ (List.mem_append_right _ (List.mem_append_right _ (List.mem_append_right _ (List.mem_append_right _ (List.mem_append_right _ (List.mem_append_right _ (List.mem_append_right _ (List.mem_append_right _ (List.mem_append_right _ (List.mem_append_left _ h))))))))))))))))))))))))))))))))))))
theorem wR28 : ∀ w ∈ wsL_law_r28, w ∈ wsL_law := fun _ h => (List.mem_append_left _ (List.mem_append_left _ (List.mem_append_left _ (List.mem_append_left _ (List.mem_append_left _ (List.mem_append_left _ (List.mem_append_left _ (List.mem_append_left _ (List.mem_append_left _ (List.mem_append_right _ (List.mem_append_right _ (List.mem_append_right _ (List.mem_append_right _ (List.mem_append_right _ (List.mem_append_right _ (List.mem_append_right _ (List.mem_append_right _ (List.mem_append_right _ (List.mem_append_right _ (List.mem_append_right _ (List.mem_append_right _ (List.mem_append_right _ (List.mem_append_right _ (List.mem_append_right _ (List.mem_append_right _ (List.mem_append_right _ (List.mem_append_right _ (List.mem_append_right _ (List.mem_append_right _ (List.mem_append_right _ (List.mem_append_right _ (List.mem_append_right _ (List.mem_append_right _ (List.mem_append_right _ (List.mem_append_right _ (List.mem_append_right _ (List.mem_append_left _ h)))))))))))))))))))))))))))))))))))))
theorem wR29 : ∀ w ∈ wsL_law_r29, w ∈ wsL_law := fun _ h => (List.mem_append_left _ (List.mem_append_left _ (List.mem_append_left _ (List.mem_append_left _ (List.mem_append_left _ (List.mem_append_left _ (List.mem_append_left _ (List.mem_append_left _ (List.mem_append_left _ (List.mem_append_right _ (List.mem_append_right _ (List.mem_append_right _ (List.mem_append_right _ (List.mem_append_right _ (List.mem_append_right _ (List.mem_append_right _ (List.mem_append_right _ (List.mem_append_right _ (List.mem_append_right _ (List.mem_append_right _ (List.mem_append_right _ (List.mem_append_right _ (List.mem_append_right _ (List.mem_append_right _ (List.mem_append_right _ (List.mem_append_right _ (List.mem_append_right _ (List.mem_append_right _ (List.mem_append_right _ (List.mem_append_right _ (List.mem_append_right _ (List.mem_append_right _ (List.mem_append_right _ (List.mem_append_right _ (List.mem_append_right _ (List.mem_append_right _ (List.mem_append_right _ (List.mem_append_left _ h))))))))))))))))))))))))))))))))))))))
theorem wR30 : ∀ w ∈ wsL_law_r30, w ∈ wsL_law := fun _ h => (List.mem_append_left _ (List.mem_append_left _ (List.mem_append_left _ (List.mem_append_left _ (List.mem_append_left _ (List.mem_append_left _ (List.mem_append_left _ (List.mem_append_left _ (List.mem_append_left _ (List.mem_append_right _ (List.mem_append_right _ (List.mem_append_right _ (List.mem_append_right _ (List.mem_append_right _ (List.mem_append_right _ (List.mem_append_right _ (List.mem_append_right _ (List.mem_append_right _ (List.mem_append_right _ (List.mem_append_right _ (List.mem_append_right _ (List.mem_append_right _ (List.mem_append_right _ (List.mem_append_right _ (List.mem_append_right _ (List.mem_append_right _ (List.mem_append_right _ (List.mem_append_right _ (List.mem_append_right _ (List.mem_append_right _ (List.mem_append_right _ (List.mem_append_right _ (List.mem_append_right _ (List.mem_append_right _ (List.mem_append_right _ (List.mem_append_right _ (List.mem_append_right _ (List.mem_append_right _ (List.mem_append_left _ h)))))))))))))))))))))))))))))))))))))))
theorem wR31 : ∀ w ∈ wsL_law_r31, w ∈ wsL_law := fun _ h => (List.mem_append_left _ (List.mem_append_left _ (List.mem_append_left _ (List.mem_append_left _ (List.mem_append_left _ (List.mem_append_left _ (List.mem_append_left _ (List.mem_append_left _ (List.mem_append_left _ (List.mem_append_right _ (List.mem_append_right _ (List.mem_append_right _ (List.mem_append_right _ (List.mem_append_right _ (List.mem_append_right _ (List.mem_append_right _ (List.mem_append_right _ (List.mem_append_right _ (List.mem_append_right _ (List.mem_append_right _ (List.mem_append_right _ (List.mem_append_right _ (List.mem_append_right _ (List.mem_append_right _ (List.mem_append_right _ (List.mem_append_right _ (List.mem_append_right _ (List.mem_append_right _ (List.mem_append_right _ (List.mem_append_right _ (List.mem_append_right _ (List.mem_append_right _ (List.mem_append_right _ (List.mem_append_right _ (List.mem_append_right _ (List.mem_append_right _ (List.mem_append_right _ (List.mem_append_right _ (List.mem_append_right _ h)))))))))))))))))))))))))))))))))))))))
def mX0_init : MD := (yX0_init, cX0_init, 1, none, 1, 20)
def mX0_beginAsTold : MD := (yX0_beginAsTold, cX0_beginAsTold, 3, none, 1, 22)
def mX0_copy : MD := (yX0_copy, cX0_copy, 2, none, 2, 61)
def mX0_groundOf : MD := (yX0_groundOf, cX0_groundOf, 2, (some .int), 1, 21)
def mX0_laidBy : MD := (yX0_laidBy, cX0_laidBy, 4, (some .int), 1, 21)
def mX0_passedByAll : MD := (yX0_passedByAll, cX0_passedByAll, 3, (some .int), 1, 21)
def mX0_stepOn : MD := (yX0_stepOn, cX0_stepOn, 3, none, 1, 22)
def mX0_lay : MD := (yX0_lay, cX0_lay, 4, none, 1, 22)
def mX1_init : MD := (yX1_init, cX1_init, 1, none, 2, 40)
def mX1_bestToLay : MD := (yX1_bestToLay, cX1_bestToLay, 10, (some .int), 2, 53)
def mX1_leastJoining : MD := (yX1_leastJoining, cX1_leastJoining, 8, (some .int), 3, 75)
def mX1_joinsAll : MD := (yX1_joinsAll, cX1_joinsAll, 4, (some .boolean), 2, 52)
def mX1_laidByTurns : MD := (yX1_laidByTurns, cX1_laidByTurns, 9, (some .int), 3, 75)
def mX1_bestOfNext : MD := (yX1_bestOfNext, cX1_bestOfNext, 7, (some .int), 1, 21)
def mX1_fewestApart : MD := (yX1_fewestApart, cX1_fewestApart, 9, (some .int), 3, 75)
def mX2_init : MD := (yX2_init, cX2_init, 1, none, 2, 40)
def mX2_readInto : MD := (yX2_readInto, cX2_readInto, 3, (some .int), 7, 150)
def mX2_readItem : MD := (yX2_readItem, cX2_readItem, 3, (some .boolean), 6, 128)
def mX2_readRow : MD := (yX2_readRow, cX2_readRow, 3, (some .boolean), 3, 66)
def mX2_readWalker : MD := (yX2_readWalker, cX2_readWalker, 3, (some .boolean), 3, 66)
def mX2_readSink : MD := (yX2_readSink, cX2_readSink, 2, (some .boolean), 3, 66)
def mX2_isNumberTo : MD := (yX2_isNumberTo, cX2_isNumberTo, 2, (some .boolean), 0, 0)
def mX2_isWord : MD := (yX2_isWord, cX2_isWord, 3, (some .boolean), 5, 106)
def mX2_toNextToken : MD := (yX2_toNextToken, cX2_toNextToken, 2, none, 2, 45)
def mX2_sortOfDigits : MD := (yX2_sortOfDigits, cX2_sortOfDigits, 3, (some .int), 1, 21)
def mX3_init : MD := (yX3_init, cX3_init, 1, none, 1, 20)
def mX3_add : MD := (yX3_add, cX3_add, 2, none, 1, 22)
def mX3_empty : MD := (yX3_empty, cX3_empty, 2, (some .int), 0, 0)
def mX3_byteAt : MD := (yX3_byteAt, cX3_byteAt, 2, (some .int), 0, 0)
def mX3_behindRun : MD := (yX3_behindRun, cX3_behindRun, 5, (some .int), 1, 21)
def mX4_init : MD := (yX4_init, cX4_init, 1, none, 1, 20)
def mX4_empty : MD := (yX4_empty, cX4_empty, 1, none, 0, 0)
def mX4_copy : MD := (yX4_copy, cX4_copy, 2, none, 2, 61)
def mX4_takesRow : MD := (yX4_takesRow, cX4_takesRow, 1, (some .boolean), 0, 0)
def mX4_beginRow : MD := (yX4_beginRow, cX4_beginRow, 2, (some .boolean), 0, 0)
def mX4_addCell : MD := (yX4_addCell, cX4_addCell, 2, (some .boolean), 0, 0)
def mX4_addWalker : MD := (yX4_addWalker, cX4_addWalker, 3, none, 1, 22)
def mX5_init : MD := (yX5_init, cX5_init, 1, none, 1, 20)
def mX5_measure : MD := (yX5_measure, cX5_measure, 4, none, 0, 0)
def mX5_near : MD := (yX5_near, cX5_near, 8, (some .int), 0, 0)
def mX5_spread : MD := (yX5_spread, cX5_spread, 6, (some .int), 1, 27)
def mX5_joins : MD := (yX5_joins, cX5_joins, 4, (some .boolean), 2, 52)
def mX5_fewestSteps : MD := (yX5_fewestSteps, cX5_fewestSteps, 7, (some .int), 1, 27)
def mX5_nextCell : MD := (yX5_nextCell, cX5_nextCell, 7, (some .int), 2, 53)
def mX5_fewestStones : MD := (yX5_fewestStones, cX5_fewestStones, 6, (some .int), 2, 52)
def mX6_init : MD := (yX6_init, cX6_init, 1, none, 3, 60)
def mX6_type : MD := (yX6_type, cX6_type, 5, (some .int), 2, 43)
def mX6_clear : MD := (yX6_clear, cX6_clear, 1, (some .int), 1, 21)
def mX6_moor : MD := (yX6_moor, cX6_moor, 2, (some .int), 8, 172)
def mX6_cell : MD := (yX6_cell, cX6_cell, 3, (some .int), 2, 42)
def mX6_walker : MD := (yX6_walker, cX6_walker, 3, (some .int), 2, 44)
def mX6_passes : MD := (yX6_passes, cX6_passes, 3, (some .int), 4, 106)
def mX6_days : MD := (yX6_days, cX6_days, 5, (some .int), 4, 106)
def mX6_now : MD := (yX6_now, cX6_now, 2, (some .int), 2, 43)
def mX6_anew : MD := (yX6_anew, cX6_anew, 2, (some .int), 2, 44)
def mX6_steps : MD := (yX6_steps, cX6_steps, 3, (some .int), 2, 53)
def mX6_way : MD := (yX6_way, cX6_way, 7, (some .int), 3, 79)
def mX6_stones : MD := (yX6_stones, cX6_stones, 3, (some .int), 3, 77)
def mX6_joined : MD := (yX6_joined, cX6_joined, 4, (some .int), 4, 102)
def mX6_likes : MD := (yX6_likes, cX6_likes, 2, (some .int), 4, 103)
def mX6_byTurns : MD := (yX6_byTurns, cX6_byTurns, 3, (some .int), 4, 103)
def mX6_apart : MD := (yX6_apart, cX6_apart, 4, (some .int), 4, 103)
def mX6_rate : MD := (yX6_rate, cX6_rate, 3, (some .int), 6, 137)
def mX6_keep : MD := (yX6_keep, cX6_keep, 3, (some .int), 3, 82)
def mX6_back : MD := (yX6_back, cX6_back, 3, (some .int), 3, 82)
def mX6_count : MD := (yX6_count, cX6_count, 2, (some .int), 0, 0)
def mX6_trace : MD := (yX6_trace, cX6_trace, 1, (some .long), 0, 0)
def mX6_isCell : MD := (yX6_isCell, cX6_isCell, 2, (some .boolean), 0, 0)
def mX6_isWalker : MD := (yX6_isWalker, cX6_isWalker, 2, (some .boolean), 0, 0)
def mX6_imageOf : MD := (yX6_imageOf, cX6_imageOf, 2, (some (.object "MoorStones$Now")), 0, 0)
def mX6_bearing : MD := (yX6_bearing, cX6_bearing, 1, (some .int), 0, 0)
def mX6_stepsOf : MD := (yX6_stepsOf, cX6_stepsOf, 2, (some .int), 2, 53)
def mX6_likedBy : MD := (yX6_likedBy, cX6_likedBy, 2, (some .int), 3, 82)
def mX6_goAndLay : MD := (yX6_goAndLay, cX6_goAndLay, 8, (some .int), 3, 79)
def mX6_rateWalker : MD := (yX6_rateWalker, cX6_rateWalker, 2, (some .int), 3, 74)
def mX6_ratePilgrim : MD := (yX6_ratePilgrim, cX6_ratePilgrim, 2, (some .int), 4, 95)
def mX6_rateShepherd : MD := (yX6_rateShepherd, cX6_rateShepherd, 2, (some .int), 4, 95)
def mX6_rateMonk : MD := (yX6_rateMonk, cX6_rateMonk, 2, (some .int), 5, 116)
def mX6_rateThief : MD := (yX6_rateThief, cX6_rateThief, 2, (some .int), 5, 116)
def mX6_rateChild : MD := (yX6_rateChild, cX6_rateChild, 2, (some .int), 4, 95)
def mX6_at : MD := (yX6_at, cX6_at, 2, (some .int), 0, 0)
def mX6_put : MD := (yX6_put, cX6_put, 3, none, 0, 0)
def mX6_copyRow : MD := (yX6_copyRow, cX6_copyRow, 2, none, 1, 40)
def mX6_has : MD := (yX6_has, cX6_has, 2, (some .boolean), 0, 0)
def mX7_init : MD := (yX7_init, cX7_init, 1, none, 1, 20)
def mX7_in : MD := (yX7_in, cX7_in, 3, (some .boolean), 0, 0)
def mX7_isCell : MD := (yX7_isCell, cX7_isCell, 2, (some .boolean), 1, 22)
def mX7_isWalker : MD := (yX7_isWalker, cX7_isWalker, 2, (some .boolean), 1, 22)
def mX7_type : MD := (yX7_type, cX7_type, 5, (some .int), 1, 22)
def mX7_clear : MD := (yX7_clear, cX7_clear, 2, (some .int), 0, 0)
def mX7_byteAt : MD := (yX7_byteAt, cX7_byteAt, 2, (some .int), 0, 0)
def mX7_sortOf : MD := (yX7_sortOf, cX7_sortOf, 1, (some .int), 1, 22)
def mX7_token : MD := (yX7_token, cX7_token, 1, none, 2, 42)
def mX7_verb : MD := (yX7_verb, cX7_verb, 4, (some .int), 1, 21)
def mX7_number : MD := (yX7_number, cX7_number, 3, (some .int), 3, 62)
def mX7_readsRow : MD := (yX7_readsRow, cX7_readsRow, 4, (some .boolean), 3, 62)
def mX7_readsWalker : MD := (yX7_readsWalker, cX7_readsWalker, 4, (some .boolean), 4, 84)
def mX7_readsSink : MD := (yX7_readsSink, cX7_readsSink, 2, (some .boolean), 4, 84)
def mX7_reads : MD := (yX7_reads, cX7_reads, 4, (some .int), 5, 107)
def mX7_begins : MD := (yX7_begins, cX7_begins, 2, none, 0, 0)
def mX7_moor : MD := (yX7_moor, cX7_moor, 3, (some .int), 6, 130)
def mX7_cell : MD := (yX7_cell, cX7_cell, 3, (some .int), 2, 43)
def mX7_laidBy : MD := (yX7_laidBy, cX7_laidBy, 4, (some .int), 0, 0)
def mX7_walker : MD := (yX7_walker, cX7_walker, 3, (some .int), 2, 43)
def mX7_apartBy : MD := (yX7_apartBy, cX7_apartBy, 2, (some .int), 0, 0)
def mX7_isStep : MD := (yX7_isStep, cX7_isStep, 5, (some .boolean), 1, 22)
def mX7_measures : MD := (yX7_measures, cX7_measures, 7, none, 2, 46)
def mX7_onward : MD := (yX7_onward, cX7_onward, 4, (some .int), 2, 46)
def mX7_stepsOf : MD := (yX7_stepsOf, cX7_stepsOf, 3, (some .int), 3, 72)
def mX7_passesAndLays : MD := (yX7_passesAndLays, cX7_passesAndLays, 6, none, 4, 94)
def mX7_passes : MD := (yX7_passes, cX7_passes, 4, (some .int), 5, 119)
def mX7_likesOf : MD := (yX7_likesOf, cX7_likesOf, 6, (some .int), 4, 94)
def mX7_days : MD := (yX7_days, cX7_days, 6, (some .int), 5, 119)
def mX7_passedInAll : MD := (yX7_passedInAll, cX7_passedInAll, 1, (some .int), 0, 0)
def mX7_many : MD := (yX7_many, cX7_many, 4, (some .int), 0, 0)
def mX7_now : MD := (yX7_now, cX7_now, 2, (some .int), 1, 23)
def mX7_anew : MD := (yX7_anew, cX7_anew, 2, (some .int), 1, 21)
def mX7_steps : MD := (yX7_steps, cX7_steps, 3, (some .int), 4, 94)
def mX7_way : MD := (yX7_way, cX7_way, 7, (some .int), 4, 94)
def mX7_costs : MD := (yX7_costs, cX7_costs, 9, (some .int), 2, 46)
def mX7_stones : MD := (yX7_stones, cX7_stones, 3, (some .int), 3, 74)
def mX7_bearing : MD := (yX7_bearing, cX7_bearing, 3, (some .int), 0, 0)
def mX7_listsBogs : MD := (yX7_listsBogs, cX7_listsBogs, 3, (some .int), 0, 0)
def mX7_chosen : MD := (yX7_chosen, cX7_chosen, 5, (some .int), 0, 0)
def mX7_nears : MD := (yX7_nears, cX7_nears, 3, none, 2, 46)
def mX7_reached : MD := (yX7_reached, cX7_reached, 7, (some .int), 0, 0)
def mX7_ones : MD := (yX7_ones, cX7_ones, 3, (some .int), 0, 0)
def mX7_joins : MD := (yX7_joins, cX7_joins, 9, (some .int), 1, 26)
def mX7_joined : MD := (yX7_joined, cX7_joined, 6, (some .int), 3, 68)
def mX7_likes : MD := (yX7_likes, cX7_likes, 2, (some .int), 5, 119)
def mX7_byTurns : MD := (yX7_byTurns, cX7_byTurns, 11, (some .int), 3, 68)
def mX7_apart : MD := (yX7_apart, cX7_apart, 10, (some .int), 3, 68)
def mX7_rate : MD := (yX7_rate, cX7_rate, 7, (some .int), 4, 94)
def mX7_keep : MD := (yX7_keep, cX7_keep, 3, (some .int), 1, 23)
def mX7_back : MD := (yX7_back, cX7_back, 3, (some .int), 1, 23)
def mX7_count : MD := (yX7_count, cX7_count, 2, (some .int), 0, 0)
def mX7_trace : MD := (yX7_trace, cX7_trace, 1, (some .long), 0, 0)
def mJ6_bitCount_0f7a4 : MD := (yJ6_bitCount_0f7a4, cJ6_bitCount_0f7a4, 1, (some .int), 0, 0)
def mJ0_length_8abf5 : MD := (yJ0_length_8abf5, cJ0_length_8abf5, 1, (some .int), 1, 20)
def mJ0_charAt_5068e : MD := (yJ0_charAt_5068e, cJ0_charAt_5068e, 2, (some .char), 4, 85)
def mJ0_coder_7d493 : MD := (yJ0_coder_7d493, cJ0_coder_7d493, 1, (some .byte), 0, 0)
def mJ0_isLatin1_aae02 : MD := (yJ0_isLatin1_aae02, cJ0_isLatin1_aae02, 1, (some .boolean), 0, 0)
def mJ0_checkIndex_df160 : MD := (yJ0_checkIndex_df160, cJ0_checkIndex_df160, 2, none, 1, 22)
def mJ1_charAt_3b067 : MD := (yJ1_charAt_3b067, cJ1_charAt_3b067, 2, (some .char), 2, 43)
def mJ2_getChar_3b067 : MD := (yJ2_getChar_3b067, cJ2_getChar_3b067, 2, (some .char), 1, 20)
def mJ2_length_9d52b : MD := (yJ2_length_9d52b, cJ2_length_9d52b, 1, (some .int), 0, 0)
def mJ2_charAt_3b067 : MD := (yJ2_charAt_3b067, cJ2_charAt_3b067, 2, (some .char), 3, 64)
def mJ2_checkIndex_2214a : MD := (yJ2_checkIndex_2214a, cJ2_checkIndex_2214a, 2, none, 2, 43)
def mJ3_checkIndex_8e157 : MD := (yJ3_checkIndex_8e157, cJ3_checkIndex_8e157, 3, (some .int), 0, 0)
theorem cfX0_beginAsTold : CFV mX0_beginAsTold 1 := ⟨⟨(wR12 _ (List.mem_of_getElem? (i := 15) rfl)), (wR2 _ (List.mem_of_getElem? (i := 6) rfl)), by decide +kernel, by decide +kernel, by decide +kernel⟩, (wR12 _ (List.mem_of_getElem? (i := 13) rfl)), (wR12 _ (List.mem_of_getElem? (i := 14) rfl))⟩
theorem cfX0_copy : CFV mX0_copy 1 := ⟨⟨(wR29 _ (List.mem_of_getElem? (i := 23) rfl)), (wR2 _ (List.mem_of_getElem? (i := 6) rfl)), by decide +kernel, by decide +kernel, by decide +kernel⟩, (wR29 _ (List.mem_of_getElem? (i := 21) rfl)), (wR29 _ (List.mem_of_getElem? (i := 22) rfl))⟩
theorem cfX0_groundOf : CFV mX0_groundOf 1 := ⟨⟨(wR15 _ (List.mem_of_getElem? (i := 18) rfl)), (wR2 _ (List.mem_of_getElem? (i := 6) rfl)), by decide +kernel, by decide +kernel, by decide +kernel⟩, (wR15 _ (List.mem_of_getElem? (i := 16) rfl)), (wR15 _ (List.mem_of_getElem? (i := 17) rfl))⟩
theorem cfX0_laidBy : CFV mX0_laidBy 1 := ⟨⟨(wR16 _ (List.mem_of_getElem? (i := 17) rfl)), (wR2 _ (List.mem_of_getElem? (i := 6) rfl)), by decide +kernel, by decide +kernel, by decide +kernel⟩, (wR16 _ (List.mem_of_getElem? (i := 15) rfl)), (wR16 _ (List.mem_of_getElem? (i := 16) rfl))⟩
theorem cfX0_passedByAll : CFV mX0_passedByAll 0 := ⟨⟨(wR21 _ (List.mem_of_getElem? (i := 10) rfl)), (wR2 _ (List.mem_of_getElem? (i := 6) rfl)), by decide +kernel, by decide +kernel, by decide +kernel⟩, (wR21 _ (List.mem_of_getElem? (i := 8) rfl)), (wR21 _ (List.mem_of_getElem? (i := 9) rfl))⟩
theorem cfX0_stepOn : CFV mX0_stepOn 1 := ⟨⟨(wR18 _ (List.mem_of_getElem? (i := 15) rfl)), (wR2 _ (List.mem_of_getElem? (i := 6) rfl)), by decide +kernel, by decide +kernel, by decide +kernel⟩, (wR18 _ (List.mem_of_getElem? (i := 13) rfl)), (wR18 _ (List.mem_of_getElem? (i := 14) rfl))⟩
theorem cfX0_lay : CFV mX0_lay 3 := ⟨⟨(wR18 _ (List.mem_of_getElem? (i := 19) rfl)), (wR2 _ (List.mem_of_getElem? (i := 6) rfl)), by decide +kernel, by decide +kernel, by decide +kernel⟩, (wR18 _ (List.mem_of_getElem? (i := 17) rfl)), (wR18 _ (List.mem_of_getElem? (i := 18) rfl))⟩
theorem cfX1_bestToLay : CFV mX1_bestToLay 4 := ⟨⟨(wR20 _ (List.mem_of_getElem? (i := 10) rfl)), (wR2 _ (List.mem_of_getElem? (i := 1) rfl)), by decide +kernel, by decide +kernel, by decide +kernel⟩, (wR20 _ (List.mem_of_getElem? (i := 8) rfl)), (wR20 _ (List.mem_of_getElem? (i := 9) rfl))⟩
theorem cfX1_leastJoining : CFV mX1_leastJoining 3 := ⟨⟨(wR24 _ (List.mem_of_getElem? (i := 2) rfl)), (wR2 _ (List.mem_of_getElem? (i := 1) rfl)), by decide +kernel, by decide +kernel, by decide +kernel⟩, (wR24 _ (List.mem_of_getElem? (i := 0) rfl)), (wR24 _ (List.mem_of_getElem? (i := 1) rfl))⟩
theorem cfX1_joinsAll : CFV mX1_joinsAll 2 := ⟨⟨(wR24 _ (List.mem_of_getElem? (i := 7) rfl)), (wR2 _ (List.mem_of_getElem? (i := 1) rfl)), by decide +kernel, by decide +kernel, by decide +kernel⟩, (wR24 _ (List.mem_of_getElem? (i := 5) rfl)), (wR24 _ (List.mem_of_getElem? (i := 6) rfl))⟩
theorem cfX1_laidByTurns : CFV mX1_laidByTurns 4 := ⟨⟨(wR26 _ (List.mem_of_getElem? (i := 7) rfl)), (wR2 _ (List.mem_of_getElem? (i := 1) rfl)), by decide +kernel, by decide +kernel, by decide +kernel⟩, (wR26 _ (List.mem_of_getElem? (i := 5) rfl)), (wR26 _ (List.mem_of_getElem? (i := 6) rfl))⟩
theorem cfX1_bestOfNext : CFV mX1_bestOfNext 2 := ⟨⟨(wR26 _ (List.mem_of_getElem? (i := 15) rfl)), (wR2 _ (List.mem_of_getElem? (i := 1) rfl)), by decide +kernel, by decide +kernel, by decide +kernel⟩, (wR26 _ (List.mem_of_getElem? (i := 13) rfl)), (wR26 _ (List.mem_of_getElem? (i := 14) rfl))⟩
theorem cfX1_fewestApart : CFV mX1_fewestApart 3 := ⟨⟨(wR27 _ (List.mem_of_getElem? (i := 8) rfl)), (wR2 _ (List.mem_of_getElem? (i := 1) rfl)), by decide +kernel, by decide +kernel, by decide +kernel⟩, (wR27 _ (List.mem_of_getElem? (i := 6) rfl)), (wR27 _ (List.mem_of_getElem? (i := 7) rfl))⟩
theorem cfX2_readInto : CFV mX2_readInto 1 := ⟨⟨(wR6 _ (List.mem_of_getElem? (i := 11) rfl)), (wR1 _ (List.mem_of_getElem? (i := 15) rfl)), by decide +kernel, by decide +kernel, by decide +kernel⟩, (wR6 _ (List.mem_of_getElem? (i := 9) rfl)), (wR6 _ (List.mem_of_getElem? (i := 10) rfl))⟩
theorem cfX2_readItem : CFV mX2_readItem 1 := ⟨⟨(wR8 _ (List.mem_of_getElem? (i := 0) rfl)), (wR1 _ (List.mem_of_getElem? (i := 15) rfl)), by decide +kernel, by decide +kernel, by decide +kernel⟩, (wR7 _ (List.mem_of_getElem? (i := 22) rfl)), (wR7 _ (List.mem_of_getElem? (i := 23) rfl))⟩
theorem cfX2_readRow : CFV mX2_readRow 1 := ⟨⟨(wR10 _ (List.mem_of_getElem? (i := 9) rfl)), (wR1 _ (List.mem_of_getElem? (i := 15) rfl)), by decide +kernel, by decide +kernel, by decide +kernel⟩, (wR10 _ (List.mem_of_getElem? (i := 7) rfl)), (wR10 _ (List.mem_of_getElem? (i := 8) rfl))⟩
theorem cfX2_readWalker : CFV mX2_readWalker 1 := ⟨⟨(wR11 _ (List.mem_of_getElem? (i := 1) rfl)), (wR1 _ (List.mem_of_getElem? (i := 15) rfl)), by decide +kernel, by decide +kernel, by decide +kernel⟩, (wR10 _ (List.mem_of_getElem? (i := 23) rfl)), (wR11 _ (List.mem_of_getElem? (i := 0) rfl))⟩
theorem cfX2_readSink : CFV mX2_readSink 1 := ⟨⟨(wR11 _ (List.mem_of_getElem? (i := 13) rfl)), (wR1 _ (List.mem_of_getElem? (i := 15) rfl)), by decide +kernel, by decide +kernel, by decide +kernel⟩, (wR11 _ (List.mem_of_getElem? (i := 11) rfl)), (wR11 _ (List.mem_of_getElem? (i := 12) rfl))⟩
theorem cfX2_isNumberTo : CFV mX2_isNumberTo 1 := ⟨⟨(wR11 _ (List.mem_of_getElem? (i := 5) rfl)), (wR1 _ (List.mem_of_getElem? (i := 15) rfl)), by decide +kernel, by decide +kernel, by decide +kernel⟩, (wR11 _ (List.mem_of_getElem? (i := 3) rfl)), (wR11 _ (List.mem_of_getElem? (i := 4) rfl))⟩
theorem cfX2_isWord : CFV mX2_isWord 1 := ⟨⟨(wR8 _ (List.mem_of_getElem? (i := 4) rfl)), (wR1 _ (List.mem_of_getElem? (i := 15) rfl)), by decide +kernel, by decide +kernel, by decide +kernel⟩, (wR8 _ (List.mem_of_getElem? (i := 2) rfl)), (wR8 _ (List.mem_of_getElem? (i := 3) rfl))⟩
theorem cfX2_toNextToken : CFV mX2_toNextToken 0 := ⟨⟨(wR7 _ (List.mem_of_getElem? (i := 6) rfl)), (wR1 _ (List.mem_of_getElem? (i := 15) rfl)), by decide +kernel, by decide +kernel, by decide +kernel⟩, (wR7 _ (List.mem_of_getElem? (i := 4) rfl)), (wR7 _ (List.mem_of_getElem? (i := 5) rfl))⟩
theorem cfX2_sortOfDigits : CFV mX2_sortOfDigits 1 := ⟨⟨(wR7 _ (List.mem_of_getElem? (i := 19) rfl)), (wR1 _ (List.mem_of_getElem? (i := 15) rfl)), by decide +kernel, by decide +kernel, by decide +kernel⟩, (wR7 _ (List.mem_of_getElem? (i := 17) rfl)), (wR7 _ (List.mem_of_getElem? (i := 18) rfl))⟩
theorem cfX3_add : CFV mX3_add 1 := ⟨⟨(wR5 _ (List.mem_of_getElem? (i := 4) rfl)), (wR2 _ (List.mem_of_getElem? (i := 17) rfl)), by decide +kernel, by decide +kernel, by decide +kernel⟩, (wR5 _ (List.mem_of_getElem? (i := 2) rfl)), (wR5 _ (List.mem_of_getElem? (i := 3) rfl))⟩
theorem cfX3_empty : CFV mX3_empty 0 := ⟨⟨(wR5 _ (List.mem_of_getElem? (i := 23) rfl)), (wR2 _ (List.mem_of_getElem? (i := 17) rfl)), by decide +kernel, by decide +kernel, by decide +kernel⟩, (wR5 _ (List.mem_of_getElem? (i := 21) rfl)), (wR5 _ (List.mem_of_getElem? (i := 22) rfl))⟩
theorem cfX3_byteAt : CFV mX3_byteAt 1 := ⟨⟨(wR7 _ (List.mem_of_getElem? (i := 14) rfl)), (wR2 _ (List.mem_of_getElem? (i := 17) rfl)), by decide +kernel, by decide +kernel, by decide +kernel⟩, (wR7 _ (List.mem_of_getElem? (i := 12) rfl)), (wR7 _ (List.mem_of_getElem? (i := 13) rfl))⟩
theorem cfX3_behindRun : CFV mX3_behindRun 3 := ⟨⟨(wR7 _ (List.mem_of_getElem? (i := 10) rfl)), (wR2 _ (List.mem_of_getElem? (i := 17) rfl)), by decide +kernel, by decide +kernel, by decide +kernel⟩, (wR7 _ (List.mem_of_getElem? (i := 8) rfl)), (wR7 _ (List.mem_of_getElem? (i := 9) rfl))⟩
theorem cfX4_empty : CFV mX4_empty 0 := ⟨⟨(wR6 _ (List.mem_of_getElem? (i := 18) rfl)), (wR1 _ (List.mem_of_getElem? (i := 20) rfl)), by decide +kernel, by decide +kernel, by decide +kernel⟩, (wR6 _ (List.mem_of_getElem? (i := 16) rfl)), (wR6 _ (List.mem_of_getElem? (i := 17) rfl))⟩
theorem cfX4_copy : CFV mX4_copy 1 := ⟨⟨(wR11 _ (List.mem_of_getElem? (i := 17) rfl)), (wR1 _ (List.mem_of_getElem? (i := 20) rfl)), by decide +kernel, by decide +kernel, by decide +kernel⟩, (wR11 _ (List.mem_of_getElem? (i := 15) rfl)), (wR11 _ (List.mem_of_getElem? (i := 16) rfl))⟩
theorem cfX4_takesRow : CFV mX4_takesRow 0 := ⟨⟨(wR10 _ (List.mem_of_getElem? (i := 13) rfl)), (wR1 _ (List.mem_of_getElem? (i := 20) rfl)), by decide +kernel, by decide +kernel, by decide +kernel⟩, (wR10 _ (List.mem_of_getElem? (i := 11) rfl)), (wR10 _ (List.mem_of_getElem? (i := 12) rfl))⟩
theorem cfX4_beginRow : CFV mX4_beginRow 1 := ⟨⟨(wR10 _ (List.mem_of_getElem? (i := 17) rfl)), (wR1 _ (List.mem_of_getElem? (i := 20) rfl)), by decide +kernel, by decide +kernel, by decide +kernel⟩, (wR10 _ (List.mem_of_getElem? (i := 15) rfl)), (wR10 _ (List.mem_of_getElem? (i := 16) rfl))⟩
theorem cfX4_addCell : CFV mX4_addCell 1 := ⟨⟨(wR10 _ (List.mem_of_getElem? (i := 21) rfl)), (wR1 _ (List.mem_of_getElem? (i := 20) rfl)), by decide +kernel, by decide +kernel, by decide +kernel⟩, (wR10 _ (List.mem_of_getElem? (i := 19) rfl)), (wR10 _ (List.mem_of_getElem? (i := 20) rfl))⟩
theorem cfX4_addWalker : CFV mX4_addWalker 2 := ⟨⟨(wR11 _ (List.mem_of_getElem? (i := 9) rfl)), (wR1 _ (List.mem_of_getElem? (i := 20) rfl)), by decide +kernel, by decide +kernel, by decide +kernel⟩, (wR11 _ (List.mem_of_getElem? (i := 7) rfl)), (wR11 _ (List.mem_of_getElem? (i := 8) rfl))⟩
theorem cfX5_measure : CFV mX5_measure 2 := ⟨⟨(wR12 _ (List.mem_of_getElem? (i := 7) rfl)), (wR3 _ (List.mem_of_getElem? (i := 14) rfl)), by decide +kernel, by decide +kernel, by decide +kernel⟩, (wR12 _ (List.mem_of_getElem? (i := 5) rfl)), (wR12 _ (List.mem_of_getElem? (i := 6) rfl))⟩
theorem cfX5_near : CFV mX5_near 1 := ⟨⟨(wR18 _ (List.mem_of_getElem? (i := 1) rfl)), (wR3 _ (List.mem_of_getElem? (i := 14) rfl)), by decide +kernel, by decide +kernel, by decide +kernel⟩, (wR17 _ (List.mem_of_getElem? (i := 23) rfl)), (wR18 _ (List.mem_of_getElem? (i := 0) rfl))⟩
theorem cfX5_spread : CFV mX5_spread 2 := ⟨⟨(wR23 _ (List.mem_of_getElem? (i := 10) rfl)), (wR3 _ (List.mem_of_getElem? (i := 14) rfl)), by decide +kernel, by decide +kernel, by decide +kernel⟩, (wR23 _ (List.mem_of_getElem? (i := 8) rfl)), (wR23 _ (List.mem_of_getElem? (i := 9) rfl))⟩
theorem cfX5_joins : CFV mX5_joins 3 := ⟨⟨(wR26 _ (List.mem_of_getElem? (i := 11) rfl)), (wR3 _ (List.mem_of_getElem? (i := 14) rfl)), by decide +kernel, by decide +kernel, by decide +kernel⟩, (wR26 _ (List.mem_of_getElem? (i := 9) rfl)), (wR26 _ (List.mem_of_getElem? (i := 10) rfl))⟩
theorem cfX5_fewestSteps : CFV mX5_fewestSteps 3 := ⟨⟨(wR17 _ (List.mem_of_getElem? (i := 21) rfl)), (wR3 _ (List.mem_of_getElem? (i := 14) rfl)), by decide +kernel, by decide +kernel, by decide +kernel⟩, (wR17 _ (List.mem_of_getElem? (i := 19) rfl)), (wR17 _ (List.mem_of_getElem? (i := 20) rfl))⟩
theorem cfX5_nextCell : CFV mX5_nextCell 3 := ⟨⟨(wR18 _ (List.mem_of_getElem? (i := 10) rfl)), (wR3 _ (List.mem_of_getElem? (i := 14) rfl)), by decide +kernel, by decide +kernel, by decide +kernel⟩, (wR18 _ (List.mem_of_getElem? (i := 8) rfl)), (wR18 _ (List.mem_of_getElem? (i := 9) rfl))⟩
theorem cfX5_fewestStones : CFV mX5_fewestStones 3 := ⟨⟨(wR23 _ (List.mem_of_getElem? (i := 6) rfl)), (wR3 _ (List.mem_of_getElem? (i := 14) rfl)), by decide +kernel, by decide +kernel, by decide +kernel⟩, (wR23 _ (List.mem_of_getElem? (i := 4) rfl)), (wR23 _ (List.mem_of_getElem? (i := 5) rfl))⟩
theorem cfX6_type : CFV mX6_type 2 := ⟨⟨(wR5 _ (List.mem_of_getElem? (i := 0) rfl)), (wR1 _ (List.mem_of_getElem? (i := 2) rfl)), by decide +kernel, by decide +kernel, by decide +kernel⟩, (wR4 _ (List.mem_of_getElem? (i := 22) rfl)), (wR4 _ (List.mem_of_getElem? (i := 23) rfl))⟩
theorem cfX6_clear : CFV mX6_clear 0 := ⟨⟨(wR5 _ (List.mem_of_getElem? (i := 19) rfl)), (wR1 _ (List.mem_of_getElem? (i := 2) rfl)), by decide +kernel, by decide +kernel, by decide +kernel⟩, (wR5 _ (List.mem_of_getElem? (i := 17) rfl)), (wR5 _ (List.mem_of_getElem? (i := 18) rfl))⟩
theorem cfX6_moor : CFV mX6_moor 0 := ⟨⟨(wR6 _ (List.mem_of_getElem? (i := 7) rfl)), (wR1 _ (List.mem_of_getElem? (i := 2) rfl)), by decide +kernel, by decide +kernel, by decide +kernel⟩, (wR6 _ (List.mem_of_getElem? (i := 5) rfl)), (wR6 _ (List.mem_of_getElem? (i := 6) rfl))⟩
theorem cfX6_cell : CFV mX6_cell 2 := ⟨⟨(wR15 _ (List.mem_of_getElem? (i := 10) rfl)), (wR1 _ (List.mem_of_getElem? (i := 2) rfl)), by decide +kernel, by decide +kernel, by decide +kernel⟩, (wR15 _ (List.mem_of_getElem? (i := 8) rfl)), (wR15 _ (List.mem_of_getElem? (i := 9) rfl))⟩
theorem cfX6_walker : CFV mX6_walker 2 := ⟨⟨(wR16 _ (List.mem_of_getElem? (i := 9) rfl)), (wR1 _ (List.mem_of_getElem? (i := 2) rfl)), by decide +kernel, by decide +kernel, by decide +kernel⟩, (wR16 _ (List.mem_of_getElem? (i := 7) rfl)), (wR16 _ (List.mem_of_getElem? (i := 8) rfl))⟩
theorem cfX6_passes : CFV mX6_passes 2 := ⟨⟨(wR17 _ (List.mem_of_getElem? (i := 9) rfl)), (wR1 _ (List.mem_of_getElem? (i := 2) rfl)), by decide +kernel, by decide +kernel, by decide +kernel⟩, (wR17 _ (List.mem_of_getElem? (i := 7) rfl)), (wR17 _ (List.mem_of_getElem? (i := 8) rfl))⟩
theorem cfX6_days : CFV mX6_days 1 := ⟨⟨(wR20 _ (List.mem_of_getElem? (i := 2) rfl)), (wR1 _ (List.mem_of_getElem? (i := 2) rfl)), by decide +kernel, by decide +kernel, by decide +kernel⟩, (wR20 _ (List.mem_of_getElem? (i := 0) rfl)), (wR20 _ (List.mem_of_getElem? (i := 1) rfl))⟩
theorem cfX6_now : CFV mX6_now 1 := ⟨⟨(wR20 _ (List.mem_of_getElem? (i := 23) rfl)), (wR1 _ (List.mem_of_getElem? (i := 2) rfl)), by decide +kernel, by decide +kernel, by decide +kernel⟩, (wR20 _ (List.mem_of_getElem? (i := 21) rfl)), (wR20 _ (List.mem_of_getElem? (i := 22) rfl))⟩
theorem cfX6_anew : CFV mX6_anew 0 := ⟨⟨(wR22 _ (List.mem_of_getElem? (i := 2) rfl)), (wR1 _ (List.mem_of_getElem? (i := 2) rfl)), by decide +kernel, by decide +kernel, by decide +kernel⟩, (wR22 _ (List.mem_of_getElem? (i := 0) rfl)), (wR22 _ (List.mem_of_getElem? (i := 1) rfl))⟩
theorem cfX6_steps : CFV mX6_steps 2 := ⟨⟨(wR22 _ (List.mem_of_getElem? (i := 10) rfl)), (wR1 _ (List.mem_of_getElem? (i := 2) rfl)), by decide +kernel, by decide +kernel, by decide +kernel⟩, (wR22 _ (List.mem_of_getElem? (i := 8) rfl)), (wR22 _ (List.mem_of_getElem? (i := 9) rfl))⟩
theorem cfX6_way : CFV mX6_way 3 := ⟨⟨(wR22 _ (List.mem_of_getElem? (i := 18) rfl)), (wR1 _ (List.mem_of_getElem? (i := 2) rfl)), by decide +kernel, by decide +kernel, by decide +kernel⟩, (wR22 _ (List.mem_of_getElem? (i := 16) rfl)), (wR22 _ (List.mem_of_getElem? (i := 17) rfl))⟩
theorem cfX6_stones : CFV mX6_stones 2 := ⟨⟨(wR23 _ (List.mem_of_getElem? (i := 2) rfl)), (wR1 _ (List.mem_of_getElem? (i := 2) rfl)), by decide +kernel, by decide +kernel, by decide +kernel⟩, (wR23 _ (List.mem_of_getElem? (i := 0) rfl)), (wR23 _ (List.mem_of_getElem? (i := 1) rfl))⟩
theorem cfX6_joined : CFV mX6_joined 2 := ⟨⟨(wR23 _ (List.mem_of_getElem? (i := 22) rfl)), (wR1 _ (List.mem_of_getElem? (i := 2) rfl)), by decide +kernel, by decide +kernel, by decide +kernel⟩, (wR23 _ (List.mem_of_getElem? (i := 20) rfl)), (wR23 _ (List.mem_of_getElem? (i := 21) rfl))⟩
theorem cfX6_likes : CFV mX6_likes 1 := ⟨⟨(wR25 _ (List.mem_of_getElem? (i := 19) rfl)), (wR1 _ (List.mem_of_getElem? (i := 2) rfl)), by decide +kernel, by decide +kernel, by decide +kernel⟩, (wR25 _ (List.mem_of_getElem? (i := 17) rfl)), (wR25 _ (List.mem_of_getElem? (i := 18) rfl))⟩
theorem cfX6_byTurns : CFV mX6_byTurns 2 := ⟨⟨(wR26 _ (List.mem_of_getElem? (i := 3) rfl)), (wR1 _ (List.mem_of_getElem? (i := 2) rfl)), by decide +kernel, by decide +kernel, by decide +kernel⟩, (wR26 _ (List.mem_of_getElem? (i := 1) rfl)), (wR26 _ (List.mem_of_getElem? (i := 2) rfl))⟩
theorem cfX6_apart : CFV mX6_apart 2 := ⟨⟨(wR27 _ (List.mem_of_getElem? (i := 3) rfl)), (wR1 _ (List.mem_of_getElem? (i := 2) rfl)), by decide +kernel, by decide +kernel, by decide +kernel⟩, (wR27 _ (List.mem_of_getElem? (i := 1) rfl)), (wR27 _ (List.mem_of_getElem? (i := 2) rfl))⟩
theorem cfX6_rate : CFV mX6_rate 2 := ⟨⟨(wR27 _ (List.mem_of_getElem? (i := 17) rfl)), (wR1 _ (List.mem_of_getElem? (i := 2) rfl)), by decide +kernel, by decide +kernel, by decide +kernel⟩, (wR27 _ (List.mem_of_getElem? (i := 15) rfl)), (wR27 _ (List.mem_of_getElem? (i := 16) rfl))⟩
theorem cfX6_keep : CFV mX6_keep 1 := ⟨⟨(wR29 _ (List.mem_of_getElem? (i := 15) rfl)), (wR1 _ (List.mem_of_getElem? (i := 2) rfl)), by decide +kernel, by decide +kernel, by decide +kernel⟩, (wR29 _ (List.mem_of_getElem? (i := 13) rfl)), (wR29 _ (List.mem_of_getElem? (i := 14) rfl))⟩
theorem cfX6_back : CFV mX6_back 1 := ⟨⟨(wR30 _ (List.mem_of_getElem? (i := 7) rfl)), (wR1 _ (List.mem_of_getElem? (i := 2) rfl)), by decide +kernel, by decide +kernel, by decide +kernel⟩, (wR30 _ (List.mem_of_getElem? (i := 5) rfl)), (wR30 _ (List.mem_of_getElem? (i := 6) rfl))⟩
theorem cfX6_count : CFV mX6_count 1 := ⟨⟨(wR30 _ (List.mem_of_getElem? (i := 15) rfl)), (wR1 _ (List.mem_of_getElem? (i := 2) rfl)), by decide +kernel, by decide +kernel, by decide +kernel⟩, (wR30 _ (List.mem_of_getElem? (i := 13) rfl)), (wR30 _ (List.mem_of_getElem? (i := 14) rfl))⟩
theorem cfX6_trace : CFV mX6_trace 0 := ⟨⟨(wR30 _ (List.mem_of_getElem? (i := 23) rfl)), (wR1 _ (List.mem_of_getElem? (i := 2) rfl)), by decide +kernel, by decide +kernel, by decide +kernel⟩, (wR30 _ (List.mem_of_getElem? (i := 21) rfl)), (wR30 _ (List.mem_of_getElem? (i := 22) rfl))⟩
theorem cfX6_isCell : CFV mX6_isCell 1 := ⟨⟨(wR15 _ (List.mem_of_getElem? (i := 14) rfl)), (wR1 _ (List.mem_of_getElem? (i := 2) rfl)), by decide +kernel, by decide +kernel, by decide +kernel⟩, (wR15 _ (List.mem_of_getElem? (i := 12) rfl)), (wR15 _ (List.mem_of_getElem? (i := 13) rfl))⟩
theorem cfX6_isWalker : CFV mX6_isWalker 1 := ⟨⟨(wR16 _ (List.mem_of_getElem? (i := 13) rfl)), (wR1 _ (List.mem_of_getElem? (i := 2) rfl)), by decide +kernel, by decide +kernel, by decide +kernel⟩, (wR16 _ (List.mem_of_getElem? (i := 11) rfl)), (wR16 _ (List.mem_of_getElem? (i := 12) rfl))⟩
theorem cfX6_imageOf : CFV mX6_imageOf 1 := ⟨⟨(wR29 _ (List.mem_of_getElem? (i := 19) rfl)), (wR1 _ (List.mem_of_getElem? (i := 2) rfl)), by decide +kernel, by decide +kernel, by decide +kernel⟩, (wR29 _ (List.mem_of_getElem? (i := 17) rfl)), (wR29 _ (List.mem_of_getElem? (i := 18) rfl))⟩
theorem cfX6_bearing : CFV mX6_bearing 0 := ⟨⟨(wR17 _ (List.mem_of_getElem? (i := 17) rfl)), (wR1 _ (List.mem_of_getElem? (i := 2) rfl)), by decide +kernel, by decide +kernel, by decide +kernel⟩, (wR17 _ (List.mem_of_getElem? (i := 15) rfl)), (wR17 _ (List.mem_of_getElem? (i := 16) rfl))⟩
theorem cfX6_stepsOf : CFV mX6_stepsOf 1 := ⟨⟨(wR17 _ (List.mem_of_getElem? (i := 13) rfl)), (wR1 _ (List.mem_of_getElem? (i := 2) rfl)), by decide +kernel, by decide +kernel, by decide +kernel⟩, (wR17 _ (List.mem_of_getElem? (i := 11) rfl)), (wR17 _ (List.mem_of_getElem? (i := 12) rfl))⟩
theorem cfX6_likedBy : CFV mX6_likedBy 1 := ⟨⟨(wR20 _ (List.mem_of_getElem? (i := 6) rfl)), (wR1 _ (List.mem_of_getElem? (i := 2) rfl)), by decide +kernel, by decide +kernel, by decide +kernel⟩, (wR20 _ (List.mem_of_getElem? (i := 4) rfl)), (wR20 _ (List.mem_of_getElem? (i := 5) rfl))⟩
theorem cfX6_goAndLay : CFV mX6_goAndLay 2 := ⟨⟨(wR18 _ (List.mem_of_getElem? (i := 6) rfl)), (wR1 _ (List.mem_of_getElem? (i := 2) rfl)), by decide +kernel, by decide +kernel, by decide +kernel⟩, (wR18 _ (List.mem_of_getElem? (i := 4) rfl)), (wR18 _ (List.mem_of_getElem? (i := 5) rfl))⟩
theorem cfX6_rateWalker : CFV mX6_rateWalker 1 := ⟨⟨(wR27 _ (List.mem_of_getElem? (i := 22) rfl)), (wR1 _ (List.mem_of_getElem? (i := 2) rfl)), by decide +kernel, by decide +kernel, by decide +kernel⟩, (wR27 _ (List.mem_of_getElem? (i := 20) rfl)), (wR27 _ (List.mem_of_getElem? (i := 21) rfl))⟩
theorem cfX6_ratePilgrim : CFV mX6_ratePilgrim 1 := ⟨⟨(wR28 _ (List.mem_of_getElem? (i := 3) rfl)), (wR1 _ (List.mem_of_getElem? (i := 2) rfl)), by decide +kernel, by decide +kernel, by decide +kernel⟩, (wR28 _ (List.mem_of_getElem? (i := 1) rfl)), (wR28 _ (List.mem_of_getElem? (i := 2) rfl))⟩
theorem cfX6_rateShepherd : CFV mX6_rateShepherd 1 := ⟨⟨(wR28 _ (List.mem_of_getElem? (i := 8) rfl)), (wR1 _ (List.mem_of_getElem? (i := 2) rfl)), by decide +kernel, by decide +kernel, by decide +kernel⟩, (wR28 _ (List.mem_of_getElem? (i := 6) rfl)), (wR28 _ (List.mem_of_getElem? (i := 7) rfl))⟩
theorem cfX6_rateMonk : CFV mX6_rateMonk 1 := ⟨⟨(wR28 _ (List.mem_of_getElem? (i := 13) rfl)), (wR1 _ (List.mem_of_getElem? (i := 2) rfl)), by decide +kernel, by decide +kernel, by decide +kernel⟩, (wR28 _ (List.mem_of_getElem? (i := 11) rfl)), (wR28 _ (List.mem_of_getElem? (i := 12) rfl))⟩
theorem cfX6_rateThief : CFV mX6_rateThief 1 := ⟨⟨(wR28 _ (List.mem_of_getElem? (i := 18) rfl)), (wR1 _ (List.mem_of_getElem? (i := 2) rfl)), by decide +kernel, by decide +kernel, by decide +kernel⟩, (wR28 _ (List.mem_of_getElem? (i := 16) rfl)), (wR28 _ (List.mem_of_getElem? (i := 17) rfl))⟩
theorem cfX6_rateChild : CFV mX6_rateChild 1 := ⟨⟨(wR28 _ (List.mem_of_getElem? (i := 23) rfl)), (wR1 _ (List.mem_of_getElem? (i := 2) rfl)), by decide +kernel, by decide +kernel, by decide +kernel⟩, (wR28 _ (List.mem_of_getElem? (i := 21) rfl)), (wR28 _ (List.mem_of_getElem? (i := 22) rfl))⟩
theorem cfX6_at : CFS mX6_at 2 := ⟨⟨(wR15 _ (List.mem_of_getElem? (i := 21) rfl)), (wR1 _ (List.mem_of_getElem? (i := 2) rfl)), by decide +kernel, by decide +kernel, by decide +kernel⟩, (wR15 _ (List.mem_of_getElem? (i := 20) rfl))⟩
theorem cfX6_put : CFS mX6_put 3 := ⟨⟨(wR5 _ (List.mem_of_getElem? (i := 6) rfl)), (wR1 _ (List.mem_of_getElem? (i := 2) rfl)), by decide +kernel, by decide +kernel, by decide +kernel⟩, (wR5 _ (List.mem_of_getElem? (i := 5) rfl))⟩
theorem cfX6_copyRow : CFS mX6_copyRow 2 := ⟨⟨(wR11 _ (List.mem_of_getElem? (i := 19) rfl)), (wR1 _ (List.mem_of_getElem? (i := 2) rfl)), by decide +kernel, by decide +kernel, by decide +kernel⟩, (wR11 _ (List.mem_of_getElem? (i := 18) rfl))⟩
theorem cfX6_has : CFS mX6_has 2 := ⟨⟨(wR12 _ (List.mem_of_getElem? (i := 19) rfl)), (wR1 _ (List.mem_of_getElem? (i := 2) rfl)), by decide +kernel, by decide +kernel, by decide +kernel⟩, (wR12 _ (List.mem_of_getElem? (i := 18) rfl))⟩
theorem cfX7_in : CFS mX7_in 3 := ⟨⟨(wR5 _ (List.mem_of_getElem? (i := 15) rfl)), (wR1 _ (List.mem_of_getElem? (i := 5) rfl)), by decide +kernel, by decide +kernel, by decide +kernel⟩, (wR5 _ (List.mem_of_getElem? (i := 14) rfl))⟩
theorem cfX7_isCell : CFV mX7_isCell 1 := ⟨⟨(wR16 _ (List.mem_of_getElem? (i := 5) rfl)), (wR1 _ (List.mem_of_getElem? (i := 5) rfl)), by decide +kernel, by decide +kernel, by decide +kernel⟩, (wR16 _ (List.mem_of_getElem? (i := 3) rfl)), (wR16 _ (List.mem_of_getElem? (i := 4) rfl))⟩
theorem cfX7_isWalker : CFV mX7_isWalker 1 := ⟨⟨(wR17 _ (List.mem_of_getElem? (i := 1) rfl)), (wR1 _ (List.mem_of_getElem? (i := 5) rfl)), by decide +kernel, by decide +kernel, by decide +kernel⟩, (wR16 _ (List.mem_of_getElem? (i := 23) rfl)), (wR17 _ (List.mem_of_getElem? (i := 0) rfl))⟩
theorem cfX7_type : CFV mX7_type 2 := ⟨⟨(wR5 _ (List.mem_of_getElem? (i := 10) rfl)), (wR1 _ (List.mem_of_getElem? (i := 5) rfl)), by decide +kernel, by decide +kernel, by decide +kernel⟩, (wR5 _ (List.mem_of_getElem? (i := 8) rfl)), (wR5 _ (List.mem_of_getElem? (i := 9) rfl))⟩
theorem cfX7_clear : CFV mX7_clear 0 := ⟨⟨(wR6 _ (List.mem_of_getElem? (i := 3) rfl)), (wR1 _ (List.mem_of_getElem? (i := 5) rfl)), by decide +kernel, by decide +kernel, by decide +kernel⟩, (wR6 _ (List.mem_of_getElem? (i := 1) rfl)), (wR6 _ (List.mem_of_getElem? (i := 2) rfl))⟩
theorem cfX7_byteAt : CFV mX7_byteAt 1 := ⟨⟨(wR13 _ (List.mem_of_getElem? (i := 23) rfl)), (wR1 _ (List.mem_of_getElem? (i := 5) rfl)), by decide +kernel, by decide +kernel, by decide +kernel⟩, (wR13 _ (List.mem_of_getElem? (i := 21) rfl)), (wR13 _ (List.mem_of_getElem? (i := 22) rfl))⟩
theorem cfX7_sortOf : CFS mX7_sortOf 1 := ⟨⟨(wR14 _ (List.mem_of_getElem? (i := 2) rfl)), (wR1 _ (List.mem_of_getElem? (i := 5) rfl)), by decide +kernel, by decide +kernel, by decide +kernel⟩, (wR14 _ (List.mem_of_getElem? (i := 1) rfl))⟩
theorem cfX7_token : CFV mX7_token 0 := ⟨⟨(wR13 _ (List.mem_of_getElem? (i := 18) rfl)), (wR1 _ (List.mem_of_getElem? (i := 5) rfl)), by decide +kernel, by decide +kernel, by decide +kernel⟩, (wR13 _ (List.mem_of_getElem? (i := 16) rfl)), (wR13 _ (List.mem_of_getElem? (i := 17) rfl))⟩
theorem cfX7_verb : CFV mX7_verb 0 := ⟨⟨(wR14 _ (List.mem_of_getElem? (i := 6) rfl)), (wR1 _ (List.mem_of_getElem? (i := 5) rfl)), by decide +kernel, by decide +kernel, by decide +kernel⟩, (wR14 _ (List.mem_of_getElem? (i := 4) rfl)), (wR14 _ (List.mem_of_getElem? (i := 5) rfl))⟩
theorem cfX7_number : CFV mX7_number 1 := ⟨⟨(wR14 _ (List.mem_of_getElem? (i := 22) rfl)), (wR1 _ (List.mem_of_getElem? (i := 5) rfl)), by decide +kernel, by decide +kernel, by decide +kernel⟩, (wR14 _ (List.mem_of_getElem? (i := 20) rfl)), (wR14 _ (List.mem_of_getElem? (i := 21) rfl))⟩
theorem cfX7_readsRow : CFV mX7_readsRow 0 := ⟨⟨(wR14 _ (List.mem_of_getElem? (i := 14) rfl)), (wR1 _ (List.mem_of_getElem? (i := 5) rfl)), by decide +kernel, by decide +kernel, by decide +kernel⟩, (wR14 _ (List.mem_of_getElem? (i := 12) rfl)), (wR14 _ (List.mem_of_getElem? (i := 13) rfl))⟩
theorem cfX7_readsWalker : CFV mX7_readsWalker 0 := ⟨⟨(wR14 _ (List.mem_of_getElem? (i := 18) rfl)), (wR1 _ (List.mem_of_getElem? (i := 5) rfl)), by decide +kernel, by decide +kernel, by decide +kernel⟩, (wR14 _ (List.mem_of_getElem? (i := 16) rfl)), (wR14 _ (List.mem_of_getElem? (i := 17) rfl))⟩
theorem cfX7_readsSink : CFV mX7_readsSink 0 := ⟨⟨(wR15 _ (List.mem_of_getElem? (i := 2) rfl)), (wR1 _ (List.mem_of_getElem? (i := 5) rfl)), by decide +kernel, by decide +kernel, by decide +kernel⟩, (wR15 _ (List.mem_of_getElem? (i := 0) rfl)), (wR15 _ (List.mem_of_getElem? (i := 1) rfl))⟩
theorem cfX7_reads : CFV mX7_reads 0 := ⟨⟨(wR13 _ (List.mem_of_getElem? (i := 12) rfl)), (wR1 _ (List.mem_of_getElem? (i := 5) rfl)), by decide +kernel, by decide +kernel, by decide +kernel⟩, (wR13 _ (List.mem_of_getElem? (i := 10) rfl)), (wR13 _ (List.mem_of_getElem? (i := 11) rfl))⟩
theorem cfX7_begins : CFV mX7_begins 0 := ⟨⟨(wR15 _ (List.mem_of_getElem? (i := 6) rfl)), (wR1 _ (List.mem_of_getElem? (i := 5) rfl)), by decide +kernel, by decide +kernel, by decide +kernel⟩, (wR15 _ (List.mem_of_getElem? (i := 4) rfl)), (wR15 _ (List.mem_of_getElem? (i := 5) rfl))⟩
theorem cfX7_moor : CFV mX7_moor 0 := ⟨⟨(wR12 _ (List.mem_of_getElem? (i := 23) rfl)), (wR1 _ (List.mem_of_getElem? (i := 5) rfl)), by decide +kernel, by decide +kernel, by decide +kernel⟩, (wR12 _ (List.mem_of_getElem? (i := 21) rfl)), (wR12 _ (List.mem_of_getElem? (i := 22) rfl))⟩
theorem cfX7_cell : CFV mX7_cell 2 := ⟨⟨(wR16 _ (List.mem_of_getElem? (i := 1) rfl)), (wR1 _ (List.mem_of_getElem? (i := 5) rfl)), by decide +kernel, by decide +kernel, by decide +kernel⟩, (wR15 _ (List.mem_of_getElem? (i := 23) rfl)), (wR16 _ (List.mem_of_getElem? (i := 0) rfl))⟩
theorem cfX7_laidBy : CFV mX7_laidBy 1 := ⟨⟨(wR17 _ (List.mem_of_getElem? (i := 5) rfl)), (wR1 _ (List.mem_of_getElem? (i := 5) rfl)), by decide +kernel, by decide +kernel, by decide +kernel⟩, (wR17 _ (List.mem_of_getElem? (i := 3) rfl)), (wR17 _ (List.mem_of_getElem? (i := 4) rfl))⟩
theorem cfX7_walker : CFV mX7_walker 2 := ⟨⟨(wR16 _ (List.mem_of_getElem? (i := 21) rfl)), (wR1 _ (List.mem_of_getElem? (i := 5) rfl)), by decide +kernel, by decide +kernel, by decide +kernel⟩, (wR16 _ (List.mem_of_getElem? (i := 19) rfl)), (wR16 _ (List.mem_of_getElem? (i := 20) rfl))⟩
theorem cfX7_apartBy : CFS mX7_apartBy 2 := ⟨⟨(wR19 _ (List.mem_of_getElem? (i := 14) rfl)), (wR1 _ (List.mem_of_getElem? (i := 5) rfl)), by decide +kernel, by decide +kernel, by decide +kernel⟩, (wR19 _ (List.mem_of_getElem? (i := 13) rfl))⟩
theorem cfX7_isStep : CFV mX7_isStep 2 := ⟨⟨(wR19 _ (List.mem_of_getElem? (i := 11) rfl)), (wR1 _ (List.mem_of_getElem? (i := 5) rfl)), by decide +kernel, by decide +kernel, by decide +kernel⟩, (wR19 _ (List.mem_of_getElem? (i := 9) rfl)), (wR19 _ (List.mem_of_getElem? (i := 10) rfl))⟩
theorem cfX7_measures : CFV mX7_measures 1 := ⟨⟨(wR19 _ (List.mem_of_getElem? (i := 7) rfl)), (wR1 _ (List.mem_of_getElem? (i := 5) rfl)), by decide +kernel, by decide +kernel, by decide +kernel⟩, (wR19 _ (List.mem_of_getElem? (i := 5) rfl)), (wR19 _ (List.mem_of_getElem? (i := 6) rfl))⟩
theorem cfX7_onward : CFV mX7_onward 1 := ⟨⟨(wR19 _ (List.mem_of_getElem? (i := 22) rfl)), (wR1 _ (List.mem_of_getElem? (i := 5) rfl)), by decide +kernel, by decide +kernel, by decide +kernel⟩, (wR19 _ (List.mem_of_getElem? (i := 20) rfl)), (wR19 _ (List.mem_of_getElem? (i := 21) rfl))⟩
theorem cfX7_stepsOf : CFV mX7_stepsOf 2 := ⟨⟨(wR19 _ (List.mem_of_getElem? (i := 3) rfl)), (wR1 _ (List.mem_of_getElem? (i := 5) rfl)), by decide +kernel, by decide +kernel, by decide +kernel⟩, (wR19 _ (List.mem_of_getElem? (i := 1) rfl)), (wR19 _ (List.mem_of_getElem? (i := 2) rfl))⟩
theorem cfX7_passesAndLays : CFV mX7_passesAndLays 2 := ⟨⟨(wR19 _ (List.mem_of_getElem? (i := 18) rfl)), (wR1 _ (List.mem_of_getElem? (i := 5) rfl)), by decide +kernel, by decide +kernel, by decide +kernel⟩, (wR19 _ (List.mem_of_getElem? (i := 16) rfl)), (wR19 _ (List.mem_of_getElem? (i := 17) rfl))⟩
theorem cfX7_passes : CFV mX7_passes 2 := ⟨⟨(wR18 _ (List.mem_of_getElem? (i := 23) rfl)), (wR1 _ (List.mem_of_getElem? (i := 5) rfl)), by decide +kernel, by decide +kernel, by decide +kernel⟩, (wR18 _ (List.mem_of_getElem? (i := 21) rfl)), (wR18 _ (List.mem_of_getElem? (i := 22) rfl))⟩
theorem cfX7_likesOf : CFV mX7_likesOf 1 := ⟨⟨(wR20 _ (List.mem_of_getElem? (i := 19) rfl)), (wR1 _ (List.mem_of_getElem? (i := 5) rfl)), by decide +kernel, by decide +kernel, by decide +kernel⟩, (wR20 _ (List.mem_of_getElem? (i := 17) rfl)), (wR20 _ (List.mem_of_getElem? (i := 18) rfl))⟩
theorem cfX7_days : CFV mX7_days 1 := ⟨⟨(wR20 _ (List.mem_of_getElem? (i := 15) rfl)), (wR1 _ (List.mem_of_getElem? (i := 5) rfl)), by decide +kernel, by decide +kernel, by decide +kernel⟩, (wR20 _ (List.mem_of_getElem? (i := 13) rfl)), (wR20 _ (List.mem_of_getElem? (i := 14) rfl))⟩
theorem cfX7_passedInAll : CFV mX7_passedInAll 0 := ⟨⟨(wR21 _ (List.mem_of_getElem? (i := 22) rfl)), (wR1 _ (List.mem_of_getElem? (i := 5) rfl)), by decide +kernel, by decide +kernel, by decide +kernel⟩, (wR21 _ (List.mem_of_getElem? (i := 20) rfl)), (wR21 _ (List.mem_of_getElem? (i := 21) rfl))⟩
theorem cfX7_many : CFV mX7_many 1 := ⟨⟨(wR21 _ (List.mem_of_getElem? (i := 18) rfl)), (wR1 _ (List.mem_of_getElem? (i := 5) rfl)), by decide +kernel, by decide +kernel, by decide +kernel⟩, (wR21 _ (List.mem_of_getElem? (i := 16) rfl)), (wR21 _ (List.mem_of_getElem? (i := 17) rfl))⟩
theorem cfX7_now : CFV mX7_now 1 := ⟨⟨(wR21 _ (List.mem_of_getElem? (i := 14) rfl)), (wR1 _ (List.mem_of_getElem? (i := 5) rfl)), by decide +kernel, by decide +kernel, by decide +kernel⟩, (wR21 _ (List.mem_of_getElem? (i := 12) rfl)), (wR21 _ (List.mem_of_getElem? (i := 13) rfl))⟩
theorem cfX7_anew : CFV mX7_anew 0 := ⟨⟨(wR22 _ (List.mem_of_getElem? (i := 6) rfl)), (wR1 _ (List.mem_of_getElem? (i := 5) rfl)), by decide +kernel, by decide +kernel, by decide +kernel⟩, (wR22 _ (List.mem_of_getElem? (i := 4) rfl)), (wR22 _ (List.mem_of_getElem? (i := 5) rfl))⟩
theorem cfX7_steps : CFV mX7_steps 2 := ⟨⟨(wR22 _ (List.mem_of_getElem? (i := 14) rfl)), (wR1 _ (List.mem_of_getElem? (i := 5) rfl)), by decide +kernel, by decide +kernel, by decide +kernel⟩, (wR22 _ (List.mem_of_getElem? (i := 12) rfl)), (wR22 _ (List.mem_of_getElem? (i := 13) rfl))⟩
theorem cfX7_way : CFV mX7_way 3 := ⟨⟨(wR22 _ (List.mem_of_getElem? (i := 22) rfl)), (wR1 _ (List.mem_of_getElem? (i := 5) rfl)), by decide +kernel, by decide +kernel, by decide +kernel⟩, (wR22 _ (List.mem_of_getElem? (i := 20) rfl)), (wR22 _ (List.mem_of_getElem? (i := 21) rfl))⟩
theorem cfX7_costs : CFV mX7_costs 2 := ⟨⟨(wR23 _ (List.mem_of_getElem? (i := 18) rfl)), (wR1 _ (List.mem_of_getElem? (i := 5) rfl)), by decide +kernel, by decide +kernel, by decide +kernel⟩, (wR23 _ (List.mem_of_getElem? (i := 16) rfl)), (wR23 _ (List.mem_of_getElem? (i := 17) rfl))⟩
theorem cfX7_stones : CFV mX7_stones 2 := ⟨⟨(wR23 _ (List.mem_of_getElem? (i := 14) rfl)), (wR1 _ (List.mem_of_getElem? (i := 5) rfl)), by decide +kernel, by decide +kernel, by decide +kernel⟩, (wR23 _ (List.mem_of_getElem? (i := 12) rfl)), (wR23 _ (List.mem_of_getElem? (i := 13) rfl))⟩
theorem cfX7_bearing : CFV mX7_bearing 0 := ⟨⟨(wR25 _ (List.mem_of_getElem? (i := 8) rfl)), (wR1 _ (List.mem_of_getElem? (i := 5) rfl)), by decide +kernel, by decide +kernel, by decide +kernel⟩, (wR25 _ (List.mem_of_getElem? (i := 6) rfl)), (wR25 _ (List.mem_of_getElem? (i := 7) rfl))⟩
theorem cfX7_listsBogs : CFV mX7_listsBogs 0 := ⟨⟨(wR24 _ (List.mem_of_getElem? (i := 16) rfl)), (wR1 _ (List.mem_of_getElem? (i := 5) rfl)), by decide +kernel, by decide +kernel, by decide +kernel⟩, (wR24 _ (List.mem_of_getElem? (i := 14) rfl)), (wR24 _ (List.mem_of_getElem? (i := 15) rfl))⟩
theorem cfX7_chosen : CFV mX7_chosen 2 := ⟨⟨(wR25 _ (List.mem_of_getElem? (i := 4) rfl)), (wR1 _ (List.mem_of_getElem? (i := 5) rfl)), by decide +kernel, by decide +kernel, by decide +kernel⟩, (wR25 _ (List.mem_of_getElem? (i := 2) rfl)), (wR25 _ (List.mem_of_getElem? (i := 3) rfl))⟩
theorem cfX7_nears : CFV mX7_nears 0 := ⟨⟨(wR24 _ (List.mem_of_getElem? (i := 20) rfl)), (wR1 _ (List.mem_of_getElem? (i := 5) rfl)), by decide +kernel, by decide +kernel, by decide +kernel⟩, (wR24 _ (List.mem_of_getElem? (i := 18) rfl)), (wR24 _ (List.mem_of_getElem? (i := 19) rfl))⟩
theorem cfX7_reached : CFV mX7_reached 2 := ⟨⟨(wR25 _ (List.mem_of_getElem? (i := 15) rfl)), (wR1 _ (List.mem_of_getElem? (i := 5) rfl)), by decide +kernel, by decide +kernel, by decide +kernel⟩, (wR25 _ (List.mem_of_getElem? (i := 13) rfl)), (wR25 _ (List.mem_of_getElem? (i := 14) rfl))⟩
theorem cfX7_ones : CFS mX7_ones 1 := ⟨⟨(wR25 _ (List.mem_of_getElem? (i := 11) rfl)), (wR1 _ (List.mem_of_getElem? (i := 5) rfl)), by decide +kernel, by decide +kernel, by decide +kernel⟩, (wR25 _ (List.mem_of_getElem? (i := 10) rfl))⟩
theorem cfX7_joins : CFV mX7_joins 2 := ⟨⟨(wR25 _ (List.mem_of_getElem? (i := 0) rfl)), (wR1 _ (List.mem_of_getElem? (i := 5) rfl)), by decide +kernel, by decide +kernel, by decide +kernel⟩, (wR24 _ (List.mem_of_getElem? (i := 22) rfl)), (wR24 _ (List.mem_of_getElem? (i := 23) rfl))⟩
theorem cfX7_joined : CFV mX7_joined 2 := ⟨⟨(wR24 _ (List.mem_of_getElem? (i := 12) rfl)), (wR1 _ (List.mem_of_getElem? (i := 5) rfl)), by decide +kernel, by decide +kernel, by decide +kernel⟩, (wR24 _ (List.mem_of_getElem? (i := 10) rfl)), (wR24 _ (List.mem_of_getElem? (i := 11) rfl))⟩
theorem cfX7_likes : CFV mX7_likes 1 := ⟨⟨(wR25 _ (List.mem_of_getElem? (i := 23) rfl)), (wR1 _ (List.mem_of_getElem? (i := 5) rfl)), by decide +kernel, by decide +kernel, by decide +kernel⟩, (wR25 _ (List.mem_of_getElem? (i := 21) rfl)), (wR25 _ (List.mem_of_getElem? (i := 22) rfl))⟩
theorem cfX7_byTurns : CFV mX7_byTurns 2 := ⟨⟨(wR26 _ (List.mem_of_getElem? (i := 23) rfl)), (wR1 _ (List.mem_of_getElem? (i := 5) rfl)), by decide +kernel, by decide +kernel, by decide +kernel⟩, (wR26 _ (List.mem_of_getElem? (i := 21) rfl)), (wR26 _ (List.mem_of_getElem? (i := 22) rfl))⟩
theorem cfX7_apart : CFV mX7_apart 2 := ⟨⟨(wR27 _ (List.mem_of_getElem? (i := 13) rfl)), (wR1 _ (List.mem_of_getElem? (i := 5) rfl)), by decide +kernel, by decide +kernel, by decide +kernel⟩, (wR27 _ (List.mem_of_getElem? (i := 11) rfl)), (wR27 _ (List.mem_of_getElem? (i := 12) rfl))⟩
theorem cfX7_rate : CFV mX7_rate 2 := ⟨⟨(wR29 _ (List.mem_of_getElem? (i := 4) rfl)), (wR1 _ (List.mem_of_getElem? (i := 5) rfl)), by decide +kernel, by decide +kernel, by decide +kernel⟩, (wR29 _ (List.mem_of_getElem? (i := 2) rfl)), (wR29 _ (List.mem_of_getElem? (i := 3) rfl))⟩
theorem cfX7_keep : CFV mX7_keep 1 := ⟨⟨(wR30 _ (List.mem_of_getElem? (i := 3) rfl)), (wR1 _ (List.mem_of_getElem? (i := 5) rfl)), by decide +kernel, by decide +kernel, by decide +kernel⟩, (wR30 _ (List.mem_of_getElem? (i := 1) rfl)), (wR30 _ (List.mem_of_getElem? (i := 2) rfl))⟩
theorem cfX7_back : CFV mX7_back 1 := ⟨⟨(wR30 _ (List.mem_of_getElem? (i := 11) rfl)), (wR1 _ (List.mem_of_getElem? (i := 5) rfl)), by decide +kernel, by decide +kernel, by decide +kernel⟩, (wR30 _ (List.mem_of_getElem? (i := 9) rfl)), (wR30 _ (List.mem_of_getElem? (i := 10) rfl))⟩
theorem cfX7_count : CFV mX7_count 1 := ⟨⟨(wR30 _ (List.mem_of_getElem? (i := 19) rfl)), (wR1 _ (List.mem_of_getElem? (i := 5) rfl)), by decide +kernel, by decide +kernel, by decide +kernel⟩, (wR30 _ (List.mem_of_getElem? (i := 17) rfl)), (wR30 _ (List.mem_of_getElem? (i := 18) rfl))⟩
theorem cfX7_trace : CFV mX7_trace 0 := ⟨⟨(wR31 _ (List.mem_of_getElem? (i := 3) rfl)), (wR1 _ (List.mem_of_getElem? (i := 5) rfl)), by decide +kernel, by decide +kernel, by decide +kernel⟩, (wR31 _ (List.mem_of_getElem? (i := 1) rfl)), (wR31 _ (List.mem_of_getElem? (i := 2) rfl))⟩
theorem cfJ6_bitCount_0f7a4 : CFS mJ6_bitCount_0f7a4 1 := ⟨⟨(wR21 _ (List.mem_of_getElem? (i := 3) rfl)), (wR21 _ (List.mem_of_getElem? (i := 2) rfl)), by decide +kernel, by decide +kernel, by decide +kernel⟩, (wR21 _ (List.mem_of_getElem? (i := 1) rfl))⟩
theorem cfJ0_length_8abf5 : CFV mJ0_length_8abf5 0 := ⟨⟨(wR8 _ (List.mem_of_getElem? (i := 9) rfl)), (wR8 _ (List.mem_of_getElem? (i := 8) rfl)), by decide +kernel, by decide +kernel, by decide +kernel⟩, (wR8 _ (List.mem_of_getElem? (i := 6) rfl)), (wR8 _ (List.mem_of_getElem? (i := 7) rfl))⟩
theorem cfJ0_charAt_5068e : CFV mJ0_charAt_5068e 1 := ⟨⟨(wR8 _ (List.mem_of_getElem? (i := 20) rfl)), (wR8 _ (List.mem_of_getElem? (i := 8) rfl)), by decide +kernel, by decide +kernel, by decide +kernel⟩, (wR8 _ (List.mem_of_getElem? (i := 18) rfl)), (wR8 _ (List.mem_of_getElem? (i := 19) rfl))⟩
theorem cfJ0_coder_7d493 : CFV mJ0_coder_7d493 0 := ⟨⟨(wR8 _ (List.mem_of_getElem? (i := 14) rfl)), (wR8 _ (List.mem_of_getElem? (i := 8) rfl)), by decide +kernel, by decide +kernel, by decide +kernel⟩, (wR8 _ (List.mem_of_getElem? (i := 12) rfl)), (wR8 _ (List.mem_of_getElem? (i := 13) rfl))⟩
theorem cfJ0_isLatin1_aae02 : CFV mJ0_isLatin1_aae02 0 := ⟨⟨(wR9 _ (List.mem_of_getElem? (i := 0) rfl)), (wR8 _ (List.mem_of_getElem? (i := 8) rfl)), by decide +kernel, by decide +kernel, by decide +kernel⟩, (wR8 _ (List.mem_of_getElem? (i := 22) rfl)), (wR8 _ (List.mem_of_getElem? (i := 23) rfl))⟩
theorem cfJ0_checkIndex_df160 : CFS mJ0_checkIndex_df160 2 := ⟨⟨(wR9 _ (List.mem_of_getElem? (i := 7) rfl)), (wR8 _ (List.mem_of_getElem? (i := 8) rfl)), by decide +kernel, by decide +kernel, by decide +kernel⟩, (wR9 _ (List.mem_of_getElem? (i := 6) rfl))⟩
theorem cfJ1_charAt_3b067 : CFS mJ1_charAt_3b067 2 := ⟨⟨(wR9 _ (List.mem_of_getElem? (i := 4) rfl)), (wR9 _ (List.mem_of_getElem? (i := 3) rfl)), by decide +kernel, by decide +kernel, by decide +kernel⟩, (wR9 _ (List.mem_of_getElem? (i := 2) rfl))⟩
theorem cfJ2_getChar_3b067 : CFS mJ2_getChar_3b067 2 := ⟨⟨(wR10 _ (List.mem_of_getElem? (i := 2) rfl)), (wR9 _ (List.mem_of_getElem? (i := 15) rfl)), by decide +kernel, by decide +kernel, by decide +kernel⟩, (wR10 _ (List.mem_of_getElem? (i := 1) rfl))⟩
theorem cfJ2_length_9d52b : CFS mJ2_length_9d52b 1 := ⟨⟨(wR9 _ (List.mem_of_getElem? (i := 22) rfl)), (wR9 _ (List.mem_of_getElem? (i := 15) rfl)), by decide +kernel, by decide +kernel, by decide +kernel⟩, (wR9 _ (List.mem_of_getElem? (i := 21) rfl))⟩
theorem cfJ2_charAt_3b067 : CFS mJ2_charAt_3b067 2 := ⟨⟨(wR9 _ (List.mem_of_getElem? (i := 16) rfl)), (wR9 _ (List.mem_of_getElem? (i := 15) rfl)), by decide +kernel, by decide +kernel, by decide +kernel⟩, (wR9 _ (List.mem_of_getElem? (i := 14) rfl))⟩
theorem cfJ2_checkIndex_2214a : CFS mJ2_checkIndex_2214a 2 := ⟨⟨(wR9 _ (List.mem_of_getElem? (i := 19) rfl)), (wR9 _ (List.mem_of_getElem? (i := 15) rfl)), by decide +kernel, by decide +kernel, by decide +kernel⟩, (wR9 _ (List.mem_of_getElem? (i := 18) rfl))⟩
theorem cfJ3_checkIndex_8e157 : CFS mJ3_checkIndex_8e157 3 := ⟨⟨(wR9 _ (List.mem_of_getElem? (i := 12) rfl)), (wR9 _ (List.mem_of_getElem? (i := 11) rfl)), by decide +kernel, by decide +kernel, by decide +kernel⟩, (wR9 _ (List.mem_of_getElem? (i := 10) rfl))⟩
theorem mlJ0_335 : ML RJ0 335 yJ0_coder_7d493 := Or.inl (wR8 _ (List.mem_of_getElem? (i := 11) rfl))
theorem mlJ0_492 : ML RJ0 492 yJ0_isLatin1_aae02 := Or.inl (wR8 _ (List.mem_of_getElem? (i := 21) rfl))
theorem mlJ0_495 : ML RJ0 495 yJ1_charAt_3b067 := Or.inl (wR9 _ (List.mem_of_getElem? (i := 1) rfl))
theorem mlJ0_498 : ML RJ0 498 yJ2_charAt_3b067 := Or.inl (wR9 _ (List.mem_of_getElem? (i := 13) rfl))
theorem mlJ0_1059 : ML RJ0 1059 yJ3_checkIndex_8e157 := Or.inl (wR9 _ (List.mem_of_getElem? (i := 9) rfl))
theorem mlJ1_9 : ML RJ1 9 yJ0_checkIndex_df160 := Or.inl (wR9 _ (List.mem_of_getElem? (i := 5) rfl))
theorem mlJ2_48 : ML RJ2 48 yJ2_length_9d52b := Or.inl (wR9 _ (List.mem_of_getElem? (i := 20) rfl))
theorem mlJ2_67 : ML RJ2 67 yJ2_checkIndex_2214a := Or.inl (wR9 _ (List.mem_of_getElem? (i := 17) rfl))
theorem mlJ2_71 : ML RJ2 71 yJ2_getChar_3b067 := Or.inl (wR10 _ (List.mem_of_getElem? (i := 0) rfl))
theorem mlJ2_414 : ML RJ2 414 yJ0_checkIndex_df160 := Or.inl (wR9 _ (List.mem_of_getElem? (i := 23) rfl))
theorem mlX0_3 : Cond.methodLink RX0 3 objectInit ∈ wsL_law := (wR3 _ (List.mem_of_getElem? (i := 23) rfl))
theorem mlX0_32 : ML RX0 32 yX6_has := Or.inr (List.mem_of_getElem? (i := 28) rfl)
theorem mlX0_39 : ML RX0 39 yX6_put := Or.inr (List.mem_of_getElem? (i := 29) rfl)
theorem mlX0_43 : ML RX0 43 yX6_copyRow := Or.inr (List.mem_of_getElem? (i := 35) rfl)
theorem mlX0_47 : ML RX0 47 yX6_at := Or.inr (List.mem_of_getElem? (i := 30) rfl)
theorem mlX1_3 : Cond.methodLink RX1 3 objectInit ∈ wsL_law := (wR3 _ (List.mem_of_getElem? (i := 11) rfl))
theorem mlX1_11 : ML RX1 11 yX5_init := Or.inr (List.mem_of_getElem? (i := 24) rfl)
theorem mlX1_22 : ML RX1 22 yX6_has := Or.inr (List.mem_of_getElem? (i := 32) rfl)
theorem mlX1_26 : ML RX1 26 yX5_fewestSteps := Or.inl (wR20 _ (List.mem_of_getElem? (i := 11) rfl))
theorem mlX1_30 : ML RX1 30 yJ6_bitCount_0f7a4 := Or.inl (wR24 _ (List.mem_of_getElem? (i := 3) rfl))
theorem mlX1_36 : ML RX1 36 yX1_joinsAll := Or.inl (wR24 _ (List.mem_of_getElem? (i := 4) rfl))
theorem mlX1_39 : ML RX1 39 yX5_spread := Or.inl (wR24 _ (List.mem_of_getElem? (i := 8) rfl))
theorem mlX1_43 : ML RX1 43 yX5_joins := Or.inl (wR26 _ (List.mem_of_getElem? (i := 8) rfl))
theorem mlX1_47 : ML RX1 47 yX1_bestOfNext := Or.inl (wR26 _ (List.mem_of_getElem? (i := 12) rfl))
theorem mlX1_50 : ML RX1 50 yX6_put := Or.inr (List.mem_of_getElem? (i := 34) rfl)
theorem mlX1_54 : ML RX1 54 yX6_at := Or.inr (List.mem_of_getElem? (i := 33) rfl)
theorem mlX1_58 : Cond.methodLink RX1 58 Lib.Math.min.name ∈ wsL_law := (wR26 _ (List.mem_of_getElem? (i := 16) rfl))
theorem mlX1_63 : Cond.methodLink RX1 63 Lib.Math.max.name ∈ wsL_law := (wR26 _ (List.mem_of_getElem? (i := 17) rfl))
theorem mlX1_66 : ML RX1 66 yX5_near := Or.inl (wR27 _ (List.mem_of_getElem? (i := 9) rfl))
theorem mlX2_3 : Cond.methodLink RX2 3 objectInit ∈ wsL_law := (wR2 _ (List.mem_of_getElem? (i := 14) rfl))
theorem mlX2_11 : ML RX2 11 yX3_init := Or.inl (wR2 _ (List.mem_of_getElem? (i := 19) rfl))
theorem mlX2_18 : ML RX2 18 yX4_empty := Or.inl (wR6 _ (List.mem_of_getElem? (i := 15) rfl))
theorem mlX2_27 : ML RX2 27 yX2_toNextToken := Or.inl (wR7 _ (List.mem_of_getElem? (i := 3) rfl))
theorem mlX2_33 : ML RX2 33 yX2_readItem := Or.inl (wR7 _ (List.mem_of_getElem? (i := 21) rfl))
theorem mlX2_42 : ML RX2 42 yX2_isWord := Or.inl (wR8 _ (List.mem_of_getElem? (i := 1) rfl))
theorem mlX2_46 : ML RX2 46 yX2_readRow := Or.inl (wR10 _ (List.mem_of_getElem? (i := 6) rfl))
theorem mlX2_51 : ML RX2 51 yX2_readWalker := Or.inl (wR10 _ (List.mem_of_getElem? (i := 22) rfl))
theorem mlX2_56 : ML RX2 56 yX2_readSink := Or.inl (wR11 _ (List.mem_of_getElem? (i := 10) rfl))
theorem mlX2_59 : ML RX2 59 yX4_takesRow := Or.inl (wR10 _ (List.mem_of_getElem? (i := 10) rfl))
theorem mlX2_63 : ML RX2 63 yX4_beginRow := Or.inl (wR10 _ (List.mem_of_getElem? (i := 14) rfl))
theorem mlX2_67 : ML RX2 67 yX3_byteAt := Or.inl (wR7 _ (List.mem_of_getElem? (i := 15) rfl))
theorem mlX2_71 : ML RX2 71 yX4_addCell := Or.inl (wR10 _ (List.mem_of_getElem? (i := 18) rfl))
theorem mlX2_80 : ML RX2 80 yX2_isNumberTo := Or.inl (wR11 _ (List.mem_of_getElem? (i := 2) rfl))
theorem mlX2_86 : ML RX2 86 yX4_addWalker := Or.inl (wR11 _ (List.mem_of_getElem? (i := 6) rfl))
theorem mlX2_96 : ML RX2 96 yJ0_length_8abf5 := Or.inl (wR8 _ (List.mem_of_getElem? (i := 5) rfl))
theorem mlX2_102 : ML RX2 102 yJ0_charAt_5068e := Or.inl (wR8 _ (List.mem_of_getElem? (i := 17) rfl))
theorem mlX2_106 : ML RX2 106 yX3_behindRun := Or.inl (wR7 _ (List.mem_of_getElem? (i := 7) rfl))
theorem mlX2_110 : ML RX2 110 yX2_sortOfDigits := Or.inl (wR7 _ (List.mem_of_getElem? (i := 16) rfl))
theorem mlX3_3 : Cond.methodLink RX3 3 objectInit ∈ wsL_law := (wR2 _ (List.mem_of_getElem? (i := 22) rfl))
theorem mlX3_19 : ML RX3 19 yX6_put := Or.inr (List.mem_of_getElem? (i := 25) rfl)
theorem mlX3_23 : ML RX3 23 yX3_byteAt := Or.inl (wR7 _ (List.mem_of_getElem? (i := 11) rfl))
theorem mlX4_3 : Cond.methodLink RX4 3 objectInit ∈ wsL_law := (wR3 _ (List.mem_of_getElem? (i := 5) rfl))
theorem mlX4_44 : ML RX4 44 yX6_copyRow := Or.inr (List.mem_of_getElem? (i := 27) rfl)
theorem mlX4_48 : ML RX4 48 yX6_put := Or.inr (List.mem_of_getElem? (i := 26) rfl)
theorem mlX5_3 : Cond.methodLink RX5 3 objectInit ∈ wsL_law := (wR3 _ (List.mem_of_getElem? (i := 19) rfl))
theorem mlX5_24 : ML RX5 24 yX5_near := Or.inl (wR17 _ (List.mem_of_getElem? (i := 22) rfl))
theorem mlX5_28 : ML RX5 28 yX6_has := Or.inr (List.mem_of_getElem? (i := 31) rfl)
theorem mlX5_32 : ML RX5 32 yX5_spread := Or.inl (wR23 _ (List.mem_of_getElem? (i := 7) rfl))
theorem mlX5_36 : ML RX5 36 yX5_fewestSteps := Or.inl (wR18 _ (List.mem_of_getElem? (i := 11) rfl))
theorem mlX6_1 : Cond.methodLink RX6 1 objectInit ∈ wsL_law := (wR1 _ (List.mem_of_getElem? (i := 10) rfl))
theorem mlX6_9 : ML RX6 9 yX2_init := Or.inl (wR2 _ (List.mem_of_getElem? (i := 11) rfl))
theorem mlX6_23 : ML RX6 23 yX4_init := Or.inl (wR3 _ (List.mem_of_getElem? (i := 2) rfl))
theorem mlX6_33 : ML RX6 33 yX1_init := Or.inl (wR3 _ (List.mem_of_getElem? (i := 8) rfl))
theorem mlX6_45 : ML RX6 45 yX0_init := Or.inl (wR3 _ (List.mem_of_getElem? (i := 20) rfl))
theorem mlX6_66 : ML RX6 66 yX3_add := Or.inl (wR5 _ (List.mem_of_getElem? (i := 1) rfl))
theorem mlX6_70 : ML RX6 70 yX3_empty := Or.inl (wR5 _ (List.mem_of_getElem? (i := 20) rfl))
theorem mlX6_74 : ML RX6 74 yX2_readInto := Or.inl (wR6 _ (List.mem_of_getElem? (i := 8) rfl))
theorem mlX6_78 : ML RX6 78 yX4_copy := Or.inl (wR11 _ (List.mem_of_getElem? (i := 14) rfl))
theorem mlX6_88 : ML RX6 88 yX5_measure := Or.inl (wR12 _ (List.mem_of_getElem? (i := 4) rfl))
theorem mlX6_94 : ML RX6 94 yX0_beginAsTold := Or.inl (wR12 _ (List.mem_of_getElem? (i := 12) rfl))
theorem mlX6_101 : ML RX6 101 yX6_isCell := Or.inl (wR15 _ (List.mem_of_getElem? (i := 11) rfl))
theorem mlX6_105 : ML RX6 105 yX0_groundOf := Or.inl (wR15 _ (List.mem_of_getElem? (i := 15) rfl))
theorem mlX6_113 : ML RX6 113 yX6_at := Or.inl (wR15 _ (List.mem_of_getElem? (i := 19) rfl))
theorem mlX6_120 : ML RX6 120 yX6_isWalker := Or.inl (wR16 _ (List.mem_of_getElem? (i := 10) rfl))
theorem mlX6_132 : ML RX6 132 yX0_laidBy := Or.inl (wR16 _ (List.mem_of_getElem? (i := 14) rfl))
theorem mlX6_135 : ML RX6 135 yX6_stepsOf := Or.inl (wR17 _ (List.mem_of_getElem? (i := 10) rfl))
theorem mlX6_141 : ML RX6 141 yX6_has := Or.inl (wR18 _ (List.mem_of_getElem? (i := 2) rfl))
theorem mlX6_145 : ML RX6 145 yX6_goAndLay := Or.inl (wR18 _ (List.mem_of_getElem? (i := 3) rfl))
theorem mlX6_152 : ML RX6 152 yX6_likedBy := Or.inl (wR20 _ (List.mem_of_getElem? (i := 3) rfl))
theorem mlX6_161 : ML RX6 161 yJ6_bitCount_0f7a4 := Or.inl (wR21 _ (List.mem_of_getElem? (i := 0) rfl))
theorem mlX6_166 : ML RX6 166 yX0_passedByAll := Or.inl (wR21 _ (List.mem_of_getElem? (i := 7) rfl))
theorem mlX6_169 : ML RX6 169 yX6_bearing := Or.inl (wR17 _ (List.mem_of_getElem? (i := 14) rfl))
theorem mlX6_172 : ML RX6 172 yX5_fewestSteps := Or.inl (wR17 _ (List.mem_of_getElem? (i := 18) rfl))
theorem mlX6_176 : ML RX6 176 yX5_nextCell := Or.inl (wR18 _ (List.mem_of_getElem? (i := 7) rfl))
theorem mlX6_179 : ML RX6 179 yX5_fewestStones := Or.inl (wR23 _ (List.mem_of_getElem? (i := 3) rfl))
theorem mlX6_182 : ML RX6 182 yX1_leastJoining := Or.inl (wR23 _ (List.mem_of_getElem? (i := 23) rfl))
theorem mlX6_185 : ML RX6 185 yX1_laidByTurns := Or.inl (wR26 _ (List.mem_of_getElem? (i := 4) rfl))
theorem mlX6_189 : ML RX6 189 yX5_near := Or.inl (wR27 _ (List.mem_of_getElem? (i := 4) rfl))
theorem mlX6_192 : ML RX6 192 yX1_fewestApart := Or.inl (wR27 _ (List.mem_of_getElem? (i := 5) rfl))
theorem mlX6_196 : ML RX6 196 yX6_rateWalker := Or.inl (wR27 _ (List.mem_of_getElem? (i := 19) rfl))
theorem mlX6_199 : ML RX6 199 yX6_ratePilgrim := Or.inl (wR28 _ (List.mem_of_getElem? (i := 0) rfl))
theorem mlX6_202 : ML RX6 202 yX6_rateShepherd := Or.inl (wR28 _ (List.mem_of_getElem? (i := 5) rfl))
theorem mlX6_205 : ML RX6 205 yX6_rateMonk := Or.inl (wR28 _ (List.mem_of_getElem? (i := 10) rfl))
theorem mlX6_208 : ML RX6 208 yX6_rateThief := Or.inl (wR28 _ (List.mem_of_getElem? (i := 15) rfl))
theorem mlX6_211 : ML RX6 211 yX6_rateChild := Or.inl (wR28 _ (List.mem_of_getElem? (i := 20) rfl))
theorem mlX6_214 : ML RX6 214 yX6_imageOf := Or.inl (wR29 _ (List.mem_of_getElem? (i := 16) rfl))
theorem mlX6_218 : ML RX6 218 yX0_copy := Or.inl (wR29 _ (List.mem_of_getElem? (i := 20) rfl))
theorem mlX6_227 : ML RX6 227 yX1_bestToLay := Or.inl (wR20 _ (List.mem_of_getElem? (i := 7) rfl))
theorem mlX6_230 : ML RX6 230 yX0_stepOn := Or.inl (wR18 _ (List.mem_of_getElem? (i := 12) rfl))
theorem mlX6_233 : ML RX6 233 yX0_lay := Or.inl (wR18 _ (List.mem_of_getElem? (i := 16) rfl))
theorem mlX6_237 : Cond.methodLink RX6 237 Lib.Math.max.name ∈ wsL_law := (wR27 _ (List.mem_of_getElem? (i := 23) rfl))
theorem mlX6_252 : Cond.methodLink RX6 252 Lib.Math.min.name ∈ wsL_law := (wR11 _ (List.mem_of_getElem? (i := 20) rfl))
theorem mlX6_255 : Cond.methodLink RX6 255 arraycopyName ∈ wsL_law := (wR12 _ (List.mem_of_getElem? (i := 0) rfl))
theorem mlX7_1 : Cond.methodLink RX7 1 objectInit ∈ wsL_law := (wR4 _ (List.mem_of_getElem? (i := 6) rfl))
theorem mlX7_57 : ML RX7 57 yX7_in := Or.inl (wR5 _ (List.mem_of_getElem? (i := 13) rfl))
theorem mlX7_72 : ML RX7 72 yX7_byteAt := Or.inl (wR13 _ (List.mem_of_getElem? (i := 20) rfl))
theorem mlX7_79 : ML RX7 79 yX7_sortOf := Or.inl (wR14 _ (List.mem_of_getElem? (i := 0) rfl))
theorem mlX7_96 : ML RX7 96 yX7_token := Or.inl (wR13 _ (List.mem_of_getElem? (i := 15) rfl))
theorem mlX7_108 : ML RX7 108 yX7_number := Or.inl (wR14 _ (List.mem_of_getElem? (i := 19) rfl))
theorem mlX7_114 : ML RX7 114 yX7_verb := Or.inl (wR14 _ (List.mem_of_getElem? (i := 3) rfl))
theorem mlX7_118 : ML RX7 118 yX7_readsRow := Or.inl (wR14 _ (List.mem_of_getElem? (i := 11) rfl))
theorem mlX7_122 : ML RX7 122 yX7_readsWalker := Or.inl (wR14 _ (List.mem_of_getElem? (i := 15) rfl))
theorem mlX7_125 : ML RX7 125 yX7_readsSink := Or.inl (wR14 _ (List.mem_of_getElem? (i := 23) rfl))
theorem mlX7_131 : ML RX7 131 yX7_reads := Or.inl (wR13 _ (List.mem_of_getElem? (i := 9) rfl))
theorem mlX7_134 : ML RX7 134 yX7_begins := Or.inl (wR15 _ (List.mem_of_getElem? (i := 3) rfl))
theorem mlX7_137 : ML RX7 137 yX7_isCell := Or.inl (wR16 _ (List.mem_of_getElem? (i := 2) rfl))
theorem mlX7_141 : ML RX7 141 yX7_isWalker := Or.inl (wR16 _ (List.mem_of_getElem? (i := 22) rfl))
theorem mlX7_144 : ML RX7 144 yX7_laidBy := Or.inl (wR17 _ (List.mem_of_getElem? (i := 2) rfl))
theorem mlX7_147 : ML RX7 147 yX7_apartBy := Or.inl (wR19 _ (List.mem_of_getElem? (i := 12) rfl))
theorem mlX7_151 : ML RX7 151 yX7_isStep := Or.inl (wR19 _ (List.mem_of_getElem? (i := 8) rfl))
theorem mlX7_155 : ML RX7 155 yX7_measures := Or.inl (wR19 _ (List.mem_of_getElem? (i := 4) rfl))
theorem mlX7_159 : ML RX7 159 yX7_stepsOf := Or.inl (wR19 _ (List.mem_of_getElem? (i := 0) rfl))
theorem mlX7_162 : ML RX7 162 yX7_onward := Or.inl (wR19 _ (List.mem_of_getElem? (i := 19) rfl))
theorem mlX7_165 : ML RX7 165 yX7_passesAndLays := Or.inl (wR19 _ (List.mem_of_getElem? (i := 15) rfl))
theorem mlX7_169 : ML RX7 169 yX7_likesOf := Or.inl (wR20 _ (List.mem_of_getElem? (i := 16) rfl))
theorem mlX7_172 : ML RX7 172 yX7_many := Or.inl (wR21 _ (List.mem_of_getElem? (i := 15) rfl))
theorem mlX7_175 : ML RX7 175 yX7_passedInAll := Or.inl (wR21 _ (List.mem_of_getElem? (i := 19) rfl))
theorem mlX7_178 : ML RX7 178 yX7_costs := Or.inl (wR23 _ (List.mem_of_getElem? (i := 15) rfl))
theorem mlX7_181 : ML RX7 181 yX7_chosen := Or.inl (wR25 _ (List.mem_of_getElem? (i := 1) rfl))
theorem mlX7_184 : ML RX7 184 yX7_bearing := Or.inl (wR25 _ (List.mem_of_getElem? (i := 5) rfl))
theorem mlX7_187 : ML RX7 187 yX7_ones := Or.inl (wR25 _ (List.mem_of_getElem? (i := 9) rfl))
theorem mlX7_190 : ML RX7 190 yX7_reached := Or.inl (wR25 _ (List.mem_of_getElem? (i := 12) rfl))
theorem mlX7_193 : ML RX7 193 yX7_listsBogs := Or.inl (wR24 _ (List.mem_of_getElem? (i := 13) rfl))
theorem mlX7_196 : ML RX7 196 yX7_nears := Or.inl (wR24 _ (List.mem_of_getElem? (i := 17) rfl))
theorem mlX7_199 : ML RX7 199 yX7_joins := Or.inl (wR24 _ (List.mem_of_getElem? (i := 21) rfl))
theorem flX0_9 : FL RX0 9 0 2 := ⟨RX0, TX0, 6, rfl, by decide, inlX0, Or.inl (wR4 _ (List.mem_of_getElem? (i := 0) rfl))⟩
theorem flX0_15 : FL RX0 15 0 3 := ⟨RX0, TX0, 6, rfl, by decide, inlX0, Or.inl (wR4 _ (List.mem_of_getElem? (i := 1) rfl))⟩
theorem flX0_18 : FL RX0 18 0 4 := ⟨RX0, TX0, 6, rfl, by decide, inlX0, Or.inl (wR4 _ (List.mem_of_getElem? (i := 2) rfl))⟩
theorem flX0_21 : FL RX0 21 4 3 := ⟨RX4, TX4, 10, rfl, by decide, inlX4, Or.inr (List.mem_of_getElem? (i := 6) rfl)⟩
theorem fpX0_21 : FP RX0 21 4 3 .int := ⟨RX4, TX4, 10, tyX4, rfl, by decide, inlX4, Or.inr (List.mem_of_getElem? (i := 6) rfl), tyX4_ok, nmX4, rfl, by decide +kernel⟩
theorem flX0_27 : FL RX0 27 0 0 := ⟨RX0, TX0, 6, rfl, by decide, inlX0, Or.inl (wR12 _ (List.mem_of_getElem? (i := 16) rfl))⟩
theorem fpX0_27 : FP RX0 27 0 0 .int := ⟨RX0, TX0, 6, tyX0, rfl, by decide, inlX0, Or.inl (wR12 _ (List.mem_of_getElem? (i := 16) rfl)), tyX0_ok, nmX0, rfl, by decide +kernel⟩
theorem flX0_28 : FL RX0 28 4 4 := ⟨RX4, TX4, 10, rfl, by decide, inlX4, Or.inr (List.mem_of_getElem? (i := 7) rfl)⟩
theorem fpX0_28 : FP RX0 28 4 4 .int := ⟨RX4, TX4, 10, tyX4, rfl, by decide, inlX4, Or.inr (List.mem_of_getElem? (i := 7) rfl), tyX4_ok, nmX4, rfl, by decide +kernel⟩
theorem flX0_31 : FL RX0 31 0 1 := ⟨RX0, TX0, 6, rfl, by decide, inlX0, Or.inl (wR12 _ (List.mem_of_getElem? (i := 17) rfl))⟩
theorem fpX0_31 : FP RX0 31 0 1 .int := ⟨RX0, TX0, 6, tyX0, rfl, by decide, inlX0, Or.inl (wR12 _ (List.mem_of_getElem? (i := 17) rfl)), tyX0_ok, nmX0, rfl, by decide +kernel⟩
theorem flX0_36 : FL RX0 36 4 5 := ⟨RX4, TX4, 10, rfl, by decide, inlX4, Or.inr (List.mem_of_getElem? (i := 8) rfl)⟩
theorem fpX0_36 : FP RX0 36 4 5 .int := ⟨RX4, TX4, 10, tyX4, rfl, by decide, inlX4, Or.inr (List.mem_of_getElem? (i := 8) rfl), tyX4_ok, nmX4, rfl, by decide +kernel⟩
theorem flX1_12 : FL RX1 12 1 0 := ⟨RX1, TX1, 2, rfl, by decide, inlX1, Or.inl (wR3 _ (List.mem_of_getElem? (i := 15) rfl))⟩
theorem flX1_18 : FL RX1 18 1 1 := ⟨RX1, TX1, 2, rfl, by decide, inlX1, Or.inl (wR3 _ (List.mem_of_getElem? (i := 16) rfl))⟩
theorem flX2_12 : FL RX2 12 2 0 := ⟨RX2, TX2, 5, rfl, by decide, inlX2, Or.inl (wR2 _ (List.mem_of_getElem? (i := 18) rfl))⟩
theorem flX2_23 : FL RX2 23 2 2 := ⟨RX2, TX2, 5, rfl, by decide, inlX2, Or.inl (wR6 _ (List.mem_of_getElem? (i := 12) rfl))⟩
theorem fpX2_23 : FP RX2 23 2 2 .int := ⟨RX2, TX2, 5, tyX2, rfl, by decide, inlX2, Or.inl (wR6 _ (List.mem_of_getElem? (i := 12) rfl)), tyX2_ok, nmX2, rfl, by decide +kernel⟩
theorem flX2_30 : FL RX2 30 2 3 := ⟨RX2, TX2, 5, rfl, by decide, inlX2, Or.inl (wR6 _ (List.mem_of_getElem? (i := 13) rfl))⟩
theorem fpX2_30 : FP RX2 30 2 3 .int := ⟨RX2, TX2, 5, tyX2, rfl, by decide, inlX2, Or.inl (wR6 _ (List.mem_of_getElem? (i := 13) rfl)), tyX2_ok, nmX2, rfl, by decide +kernel⟩
theorem flX2_37 : FL RX2 37 2 1 := ⟨RX2, TX2, 5, rfl, by decide, inlX2, Or.inl (wR6 _ (List.mem_of_getElem? (i := 14) rfl))⟩
theorem fpX2_37 : FP RX2 37 2 1 .int := ⟨RX2, TX2, 5, tyX2, rfl, by decide, inlX2, Or.inl (wR6 _ (List.mem_of_getElem? (i := 14) rfl)), tyX2_ok, nmX2, rfl, by decide +kernel⟩
theorem flX2_74 : FL RX2 74 4 7 := ⟨RX4, TX4, 10, rfl, by decide, inlX4, Or.inr (List.mem_of_getElem? (i := 12) rfl)⟩
theorem fpX2_74 : FP RX2 74 4 7 .int := ⟨RX4, TX4, 10, tyX4, rfl, by decide, inlX4, Or.inr (List.mem_of_getElem? (i := 12) rfl), tyX4_ok, nmX4, rfl, by decide +kernel⟩
theorem flX2_77 : FL RX2 77 4 2 := ⟨RX4, TX4, 10, rfl, by decide, inlX4, Or.inr (List.mem_of_getElem? (i := 4) rfl)⟩
theorem fpX2_77 : FP RX2 77 4 2 .int := ⟨RX4, TX4, 10, tyX4, rfl, by decide, inlX4, Or.inr (List.mem_of_getElem? (i := 4) rfl), tyX4_ok, nmX4, rfl, by decide +kernel⟩
theorem flX2_83 : FL RX2 83 2 4 := ⟨RX2, TX2, 5, rfl, by decide, inlX2, Or.inl (wR7 _ (List.mem_of_getElem? (i := 20) rfl))⟩
theorem fpX2_83 : FP RX2 83 2 4 .int := ⟨RX2, TX2, 5, tyX2, rfl, by decide, inlX2, Or.inl (wR7 _ (List.mem_of_getElem? (i := 20) rfl)), tyX2_ok, nmX2, rfl, by decide +kernel⟩
theorem flX2_90 : FL RX2 90 4 6 := ⟨RX4, TX4, 10, rfl, by decide, inlX4, Or.inr (List.mem_of_getElem? (i := 11) rfl)⟩
theorem fpX2_90 : FP RX2 90 4 6 .boolean := ⟨RX4, TX4, 10, tyX4, rfl, by decide, inlX4, Or.inr (List.mem_of_getElem? (i := 11) rfl), tyX4_ok, nmX4, rfl, by decide +kernel⟩
theorem flX2_94 : FL RX2 94 4 5 := ⟨RX4, TX4, 10, rfl, by decide, inlX4, Or.inr (List.mem_of_getElem? (i := 9) rfl)⟩
theorem fpX2_94 : FP RX2 94 4 5 .int := ⟨RX4, TX4, 10, tyX4, rfl, by decide, inlX4, Or.inr (List.mem_of_getElem? (i := 9) rfl), tyX4_ok, nmX4, rfl, by decide +kernel⟩
theorem flX3_9 : FL RX3 9 3 0 := ⟨RX3, TX3, 2, rfl, by decide, inlX3, Or.inl (wR3 _ (List.mem_of_getElem? (i := 0) rfl))⟩
theorem flX3_15 : FL RX3 15 3 1 := ⟨RX3, TX3, 2, rfl, by decide, inlX3, Or.inl (wR3 _ (List.mem_of_getElem? (i := 1) rfl))⟩
theorem fpX3_15 : FP RX3 15 3 1 .int := ⟨RX3, TX3, 2, tyX3, rfl, by decide, inlX3, Or.inl (wR3 _ (List.mem_of_getElem? (i := 1) rfl)), tyX3_ok, nmX3, rfl, by decide +kernel⟩
theorem flX4_9 : FL RX4 9 4 8 := ⟨RX4, TX4, 10, rfl, by decide, inlX4, Or.inl (wR3 _ (List.mem_of_getElem? (i := 6) rfl))⟩
theorem flX4_15 : FL RX4 15 4 9 := ⟨RX4, TX4, 10, rfl, by decide, inlX4, Or.inl (wR3 _ (List.mem_of_getElem? (i := 7) rfl))⟩
theorem flX4_18 : FL RX4 18 4 0 := ⟨RX4, TX4, 10, rfl, by decide, inlX4, Or.inl (wR6 _ (List.mem_of_getElem? (i := 19) rfl))⟩
theorem fpX4_18 : FP RX4 18 4 0 .int := ⟨RX4, TX4, 10, tyX4, rfl, by decide, inlX4, Or.inl (wR6 _ (List.mem_of_getElem? (i := 19) rfl)), tyX4_ok, nmX4, rfl, by decide +kernel⟩
theorem flX4_22 : FL RX4 22 4 1 := ⟨RX4, TX4, 10, rfl, by decide, inlX4, Or.inl (wR6 _ (List.mem_of_getElem? (i := 20) rfl))⟩
theorem fpX4_22 : FP RX4 22 4 1 .int := ⟨RX4, TX4, 10, tyX4, rfl, by decide, inlX4, Or.inl (wR6 _ (List.mem_of_getElem? (i := 20) rfl)), tyX4_ok, nmX4, rfl, by decide +kernel⟩
theorem flX4_25 : FL RX4 25 4 2 := ⟨RX4, TX4, 10, rfl, by decide, inlX4, Or.inl (wR6 _ (List.mem_of_getElem? (i := 21) rfl))⟩
theorem fpX4_25 : FP RX4 25 4 2 .int := ⟨RX4, TX4, 10, tyX4, rfl, by decide, inlX4, Or.inl (wR6 _ (List.mem_of_getElem? (i := 21) rfl)), tyX4_ok, nmX4, rfl, by decide +kernel⟩
theorem flX4_28 : FL RX4 28 4 3 := ⟨RX4, TX4, 10, rfl, by decide, inlX4, Or.inl (wR6 _ (List.mem_of_getElem? (i := 22) rfl))⟩
theorem fpX4_28 : FP RX4 28 4 3 .int := ⟨RX4, TX4, 10, tyX4, rfl, by decide, inlX4, Or.inl (wR6 _ (List.mem_of_getElem? (i := 22) rfl)), tyX4_ok, nmX4, rfl, by decide +kernel⟩
theorem flX4_31 : FL RX4 31 4 4 := ⟨RX4, TX4, 10, rfl, by decide, inlX4, Or.inl (wR6 _ (List.mem_of_getElem? (i := 23) rfl))⟩
theorem fpX4_31 : FP RX4 31 4 4 .int := ⟨RX4, TX4, 10, tyX4, rfl, by decide, inlX4, Or.inl (wR6 _ (List.mem_of_getElem? (i := 23) rfl)), tyX4_ok, nmX4, rfl, by decide +kernel⟩
theorem flX4_34 : FL RX4 34 4 5 := ⟨RX4, TX4, 10, rfl, by decide, inlX4, Or.inl (wR7 _ (List.mem_of_getElem? (i := 0) rfl))⟩
theorem fpX4_34 : FP RX4 34 4 5 .int := ⟨RX4, TX4, 10, tyX4, rfl, by decide, inlX4, Or.inl (wR7 _ (List.mem_of_getElem? (i := 0) rfl)), tyX4_ok, nmX4, rfl, by decide +kernel⟩
theorem flX4_37 : FL RX4 37 4 6 := ⟨RX4, TX4, 10, rfl, by decide, inlX4, Or.inl (wR7 _ (List.mem_of_getElem? (i := 1) rfl))⟩
theorem fpX4_37 : FP RX4 37 4 6 .boolean := ⟨RX4, TX4, 10, tyX4, rfl, by decide, inlX4, Or.inl (wR7 _ (List.mem_of_getElem? (i := 1) rfl)), tyX4_ok, nmX4, rfl, by decide +kernel⟩
theorem flX4_41 : FL RX4 41 4 7 := ⟨RX4, TX4, 10, rfl, by decide, inlX4, Or.inl (wR7 _ (List.mem_of_getElem? (i := 2) rfl))⟩
theorem fpX4_41 : FP RX4 41 4 7 .int := ⟨RX4, TX4, 10, tyX4, rfl, by decide, inlX4, Or.inl (wR7 _ (List.mem_of_getElem? (i := 2) rfl)), tyX4_ok, nmX4, rfl, by decide +kernel⟩
theorem flX5_9 : FL RX5 9 5 0 := ⟨RX5, TX5, 4, rfl, by decide, inlX5, Or.inl (wR12 _ (List.mem_of_getElem? (i := 8) rfl))⟩
theorem fpX5_9 : FP RX5 9 5 0 .int := ⟨RX5, TX5, 4, tyX5, rfl, by decide, inlX5, Or.inl (wR12 _ (List.mem_of_getElem? (i := 8) rfl)), tyX5_ok, nmX5, rfl, by decide +kernel⟩
theorem flX5_15 : FL RX5 15 5 1 := ⟨RX5, TX5, 4, rfl, by decide, inlX5, Or.inl (wR12 _ (List.mem_of_getElem? (i := 9) rfl))⟩
theorem fpX5_15 : FP RX5 15 5 1 .int := ⟨RX5, TX5, 4, tyX5, rfl, by decide, inlX5, Or.inl (wR12 _ (List.mem_of_getElem? (i := 9) rfl)), tyX5_ok, nmX5, rfl, by decide +kernel⟩
theorem flX5_18 : FL RX5 18 5 2 := ⟨RX5, TX5, 4, rfl, by decide, inlX5, Or.inl (wR12 _ (List.mem_of_getElem? (i := 10) rfl))⟩
theorem fpX5_18 : FP RX5 18 5 2 .int := ⟨RX5, TX5, 4, tyX5, rfl, by decide, inlX5, Or.inl (wR12 _ (List.mem_of_getElem? (i := 10) rfl)), tyX5_ok, nmX5, rfl, by decide +kernel⟩
theorem flX5_21 : FL RX5 21 5 3 := ⟨RX5, TX5, 4, rfl, by decide, inlX5, Or.inl (wR12 _ (List.mem_of_getElem? (i := 11) rfl))⟩
theorem fpX5_21 : FP RX5 21 5 3 .int := ⟨RX5, TX5, 4, tyX5, rfl, by decide, inlX5, Or.inl (wR12 _ (List.mem_of_getElem? (i := 11) rfl)), tyX5_ok, nmX5, rfl, by decide +kernel⟩
theorem flX6_10 : FL RX6 10 6 0 := ⟨RX6, TX6, 10, rfl, by decide, inlX6, Or.inl (wR1 _ (List.mem_of_getElem? (i := 16) rfl))⟩
theorem flX6_16 : FL RX6 16 2 0 := ⟨RX2, TX2, 5, rfl, by decide, inlX2, Or.inr (List.mem_of_getElem? (i := 1) rfl)⟩
theorem flX6_20 : FL RX6 20 6 1 := ⟨RX6, TX6, 10, rfl, by decide, inlX6, Or.inl (wR1 _ (List.mem_of_getElem? (i := 17) rfl))⟩
theorem flX6_24 : FL RX6 24 6 2 := ⟨RX6, TX6, 10, rfl, by decide, inlX6, Or.inl (wR1 _ (List.mem_of_getElem? (i := 21) rfl))⟩
theorem flX6_28 : FL RX6 28 6 3 := ⟨RX6, TX6, 10, rfl, by decide, inlX6, Or.inl (wR1 _ (List.mem_of_getElem? (i := 22) rfl))⟩
theorem flX6_34 : FL RX6 34 6 4 := ⟨RX6, TX6, 10, rfl, by decide, inlX6, Or.inl (wR2 _ (List.mem_of_getElem? (i := 2) rfl))⟩
theorem flX6_38 : FL RX6 38 1 0 := ⟨RX1, TX1, 2, rfl, by decide, inlX1, Or.inr (List.mem_of_getElem? (i := 17) rfl)⟩
theorem flX6_42 : FL RX6 42 6 5 := ⟨RX6, TX6, 10, rfl, by decide, inlX6, Or.inl (wR2 _ (List.mem_of_getElem? (i := 3) rfl))⟩
theorem flX6_46 : FL RX6 46 6 6 := ⟨RX6, TX6, 10, rfl, by decide, inlX6, Or.inl (wR2 _ (List.mem_of_getElem? (i := 7) rfl))⟩
theorem flX6_50 : FL RX6 50 6 7 := ⟨RX6, TX6, 10, rfl, by decide, inlX6, Or.inl (wR2 _ (List.mem_of_getElem? (i := 8) rfl))⟩
theorem flX6_53 : FL RX6 53 6 8 := ⟨RX6, TX6, 10, rfl, by decide, inlX6, Or.inl (wR2 _ (List.mem_of_getElem? (i := 9) rfl))⟩
theorem flX6_56 : FL RX6 56 6 9 := ⟨RX6, TX6, 10, rfl, by decide, inlX6, Or.inl (wR2 _ (List.mem_of_getElem? (i := 10) rfl))⟩
theorem fpX6_56 : FP RX6 56 6 9 .long := ⟨RX6, TX6, 10, tyX6, rfl, by decide, inlX6, Or.inl (wR2 _ (List.mem_of_getElem? (i := 10) rfl)), tyX6_ok, nmX6, rfl, by decide +kernel⟩
theorem flX6_60 : FL RX6 60 3 1 := ⟨RX3, TX3, 2, rfl, by decide, inlX3, Or.inr (List.mem_of_getElem? (i := 0) rfl)⟩
theorem fpX6_60 : FP RX6 60 3 1 .int := ⟨RX3, TX3, 2, tyX3, rfl, by decide, inlX3, Or.inr (List.mem_of_getElem? (i := 0) rfl), tyX3_ok, nmX3, rfl, by decide +kernel⟩
theorem flX6_82 : FL RX6 82 4 0 := ⟨RX4, TX4, 10, rfl, by decide, inlX4, Or.inr (List.mem_of_getElem? (i := 2) rfl)⟩
theorem fpX6_82 : FP RX6 82 4 0 .int := ⟨RX4, TX4, 10, tyX4, rfl, by decide, inlX4, Or.inr (List.mem_of_getElem? (i := 2) rfl), tyX4_ok, nmX4, rfl, by decide +kernel⟩
theorem flX6_85 : FL RX6 85 4 1 := ⟨RX4, TX4, 10, rfl, by decide, inlX4, Or.inr (List.mem_of_getElem? (i := 3) rfl)⟩
theorem fpX6_85 : FP RX6 85 4 1 .int := ⟨RX4, TX4, 10, tyX4, rfl, by decide, inlX4, Or.inr (List.mem_of_getElem? (i := 3) rfl), tyX4_ok, nmX4, rfl, by decide +kernel⟩
theorem flX6_97 : FL RX6 97 0 5 := ⟨RX0, TX0, 6, rfl, by decide, inlX0, Or.inr (List.mem_of_getElem? (i := 23) rfl)⟩
theorem fpX6_97 : FP RX6 97 0 5 .boolean := ⟨RX0, TX0, 6, tyX0, rfl, by decide, inlX0, Or.inr (List.mem_of_getElem? (i := 23) rfl), tyX0_ok, nmX0, rfl, by decide +kernel⟩
theorem flX6_109 : FL RX6 109 0 2 := ⟨RX0, TX0, 6, rfl, by decide, inlX0, Or.inr (List.mem_of_getElem? (i := 20) rfl)⟩
theorem flX6_117 : FL RX6 117 0 3 := ⟨RX0, TX0, 6, rfl, by decide, inlX0, Or.inr (List.mem_of_getElem? (i := 21) rfl)⟩
theorem flX6_123 : FL RX6 123 4 8 := ⟨RX4, TX4, 10, rfl, by decide, inlX4, Or.inr (List.mem_of_getElem? (i := 14) rfl)⟩
theorem flX6_126 : FL RX6 126 4 9 := ⟨RX4, TX4, 10, rfl, by decide, inlX4, Or.inr (List.mem_of_getElem? (i := 15) rfl)⟩
theorem flX6_129 : FL RX6 129 0 4 := ⟨RX0, TX0, 6, rfl, by decide, inlX0, Or.inr (List.mem_of_getElem? (i := 22) rfl)⟩
theorem flX6_138 : FL RX6 138 0 0 := ⟨RX0, TX0, 6, rfl, by decide, inlX0, Or.inr (List.mem_of_getElem? (i := 18) rfl)⟩
theorem fpX6_138 : FP RX6 138 0 0 .int := ⟨RX0, TX0, 6, tyX0, rfl, by decide, inlX0, Or.inr (List.mem_of_getElem? (i := 18) rfl), tyX0_ok, nmX0, rfl, by decide +kernel⟩
theorem flX6_149 : FL RX6 149 4 7 := ⟨RX4, TX4, 10, rfl, by decide, inlX4, Or.inr (List.mem_of_getElem? (i := 13) rfl)⟩
theorem fpX6_149 : FP RX6 149 4 7 .int := ⟨RX4, TX4, 10, tyX4, rfl, by decide, inlX4, Or.inr (List.mem_of_getElem? (i := 13) rfl), tyX4_ok, nmX4, rfl, by decide +kernel⟩
theorem flX6_155 : FL RX6 155 5 1 := ⟨RX5, TX5, 4, rfl, by decide, inlX5, Or.inr (List.mem_of_getElem? (i := 16) rfl)⟩
theorem fpX6_155 : FP RX6 155 5 1 .int := ⟨RX5, TX5, 4, tyX5, rfl, by decide, inlX5, Or.inr (List.mem_of_getElem? (i := 16) rfl), tyX5_ok, nmX5, rfl, by decide +kernel⟩
theorem flX6_158 : FL RX6 158 0 1 := ⟨RX0, TX0, 6, rfl, by decide, inlX0, Or.inr (List.mem_of_getElem? (i := 19) rfl)⟩
theorem fpX6_158 : FP RX6 158 0 1 .int := ⟨RX0, TX0, 6, tyX0, rfl, by decide, inlX0, Or.inr (List.mem_of_getElem? (i := 19) rfl), tyX0_ok, nmX0, rfl, by decide +kernel⟩
theorem flX6_221 : FL RX6 221 4 5 := ⟨RX4, TX4, 10, rfl, by decide, inlX4, Or.inr (List.mem_of_getElem? (i := 10) rfl)⟩
theorem fpX6_221 : FP RX6 221 4 5 .int := ⟨RX4, TX4, 10, tyX4, rfl, by decide, inlX4, Or.inr (List.mem_of_getElem? (i := 10) rfl), tyX4_ok, nmX4, rfl, by decide +kernel⟩
theorem flX6_224 : FL RX6 224 4 2 := ⟨RX4, TX4, 10, rfl, by decide, inlX4, Or.inr (List.mem_of_getElem? (i := 5) rfl)⟩
theorem fpX6_224 : FP RX6 224 4 2 .int := ⟨RX4, TX4, 10, tyX4, rfl, by decide, inlX4, Or.inr (List.mem_of_getElem? (i := 5) rfl), tyX4_ok, nmX4, rfl, by decide +kernel⟩
theorem flX7_7 : FL RX7 7 7 2 := ⟨RX7, TX7, 27, rfl, by decide, inlX7, Or.inl (wR4 _ (List.mem_of_getElem? (i := 7) rfl))⟩
theorem flX7_13 : FL RX7 13 7 4 := ⟨RX7, TX7, 27, rfl, by decide, inlX7, Or.inl (wR4 _ (List.mem_of_getElem? (i := 8) rfl))⟩
theorem flX7_16 : FL RX7 16 7 5 := ⟨RX7, TX7, 27, rfl, by decide, inlX7, Or.inl (wR4 _ (List.mem_of_getElem? (i := 9) rfl))⟩
theorem flX7_19 : FL RX7 19 7 6 := ⟨RX7, TX7, 27, rfl, by decide, inlX7, Or.inl (wR4 _ (List.mem_of_getElem? (i := 10) rfl))⟩
theorem flX7_22 : FL RX7 22 7 7 := ⟨RX7, TX7, 27, rfl, by decide, inlX7, Or.inl (wR4 _ (List.mem_of_getElem? (i := 11) rfl))⟩
theorem flX7_25 : FL RX7 25 7 16 := ⟨RX7, TX7, 27, rfl, by decide, inlX7, Or.inl (wR4 _ (List.mem_of_getElem? (i := 12) rfl))⟩
theorem flX7_28 : FL RX7 28 7 17 := ⟨RX7, TX7, 27, rfl, by decide, inlX7, Or.inl (wR4 _ (List.mem_of_getElem? (i := 13) rfl))⟩
theorem flX7_31 : FL RX7 31 7 18 := ⟨RX7, TX7, 27, rfl, by decide, inlX7, Or.inl (wR4 _ (List.mem_of_getElem? (i := 15) rfl))⟩
theorem flX7_35 : FL RX7 35 7 23 := ⟨RX7, TX7, 27, rfl, by decide, inlX7, Or.inl (wR4 _ (List.mem_of_getElem? (i := 16) rfl))⟩
theorem flX7_38 : FL RX7 38 7 24 := ⟨RX7, TX7, 27, rfl, by decide, inlX7, Or.inl (wR4 _ (List.mem_of_getElem? (i := 17) rfl))⟩
theorem flX7_41 : FL RX7 41 7 25 := ⟨RX7, TX7, 27, rfl, by decide, inlX7, Or.inl (wR4 _ (List.mem_of_getElem? (i := 18) rfl))⟩
theorem flX7_44 : FL RX7 44 7 26 := ⟨RX7, TX7, 27, rfl, by decide, inlX7, Or.inl (wR4 _ (List.mem_of_getElem? (i := 19) rfl))⟩
theorem flX7_47 : FL RX7 47 7 0 := ⟨RX7, TX7, 27, rfl, by decide, inlX7, Or.inl (wR4 _ (List.mem_of_getElem? (i := 20) rfl))⟩
theorem fpX7_47 : FP RX7 47 7 0 .int := ⟨RX7, TX7, 27, tyX7, rfl, by decide, inlX7, Or.inl (wR4 _ (List.mem_of_getElem? (i := 20) rfl)), tyX7_ok, nmX7, rfl, by decide +kernel⟩
theorem flX7_51 : FL RX7 51 7 8 := ⟨RX7, TX7, 27, rfl, by decide, inlX7, Or.inl (wR13 _ (List.mem_of_getElem? (i := 2) rfl))⟩
theorem fpX7_51 : FP RX7 51 7 8 .int := ⟨RX7, TX7, 27, tyX7, rfl, by decide, inlX7, Or.inl (wR13 _ (List.mem_of_getElem? (i := 2) rfl)), tyX7_ok, nmX7, rfl, by decide +kernel⟩
theorem flX7_54 : FL RX7 54 7 9 := ⟨RX7, TX7, 27, rfl, by decide, inlX7, Or.inl (wR13 _ (List.mem_of_getElem? (i := 4) rfl))⟩
theorem fpX7_54 : FP RX7 54 7 9 .int := ⟨RX7, TX7, 27, tyX7, rfl, by decide, inlX7, Or.inl (wR13 _ (List.mem_of_getElem? (i := 4) rfl)), tyX7_ok, nmX7, rfl, by decide +kernel⟩
theorem flX7_61 : FL RX7 61 7 10 := ⟨RX7, TX7, 27, rfl, by decide, inlX7, Or.inl (wR13 _ (List.mem_of_getElem? (i := 6) rfl))⟩
theorem fpX7_61 : FP RX7 61 7 10 .int := ⟨RX7, TX7, 27, tyX7, rfl, by decide, inlX7, Or.inl (wR13 _ (List.mem_of_getElem? (i := 6) rfl)), tyX7_ok, nmX7, rfl, by decide +kernel⟩
theorem flX7_64 : FL RX7 64 7 3 := ⟨RX7, TX7, 27, rfl, by decide, inlX7, Or.inl (wR5 _ (List.mem_of_getElem? (i := 11) rfl))⟩
theorem fpX7_64 : FP RX7 64 7 3 .int := ⟨RX7, TX7, 27, tyX7, rfl, by decide, inlX7, Or.inl (wR5 _ (List.mem_of_getElem? (i := 11) rfl)), tyX7_ok, nmX7, rfl, by decide +kernel⟩
theorem flX7_69 : FL RX7 69 7 19 := ⟨RX7, TX7, 27, rfl, by decide, inlX7, Or.inl (wR13 _ (List.mem_of_getElem? (i := 13) rfl))⟩
theorem fpX7_69 : FP RX7 69 7 19 .int := ⟨RX7, TX7, 27, tyX7, rfl, by decide, inlX7, Or.inl (wR13 _ (List.mem_of_getElem? (i := 13) rfl)), tyX7_ok, nmX7, rfl, by decide +kernel⟩
theorem flX7_76 : FL RX7 76 7 21 := ⟨RX7, TX7, 27, rfl, by decide, inlX7, Or.inl (wR13 _ (List.mem_of_getElem? (i := 0) rfl))⟩
theorem fpX7_76 : FP RX7 76 7 21 .int := ⟨RX7, TX7, 27, tyX7, rfl, by decide, inlX7, Or.inl (wR13 _ (List.mem_of_getElem? (i := 0) rfl)), tyX7_ok, nmX7, rfl, by decide +kernel⟩
theorem flX7_82 : FL RX7 82 7 20 := ⟨RX7, TX7, 27, rfl, by decide, inlX7, Or.inl (wR13 _ (List.mem_of_getElem? (i := 14) rfl))⟩
theorem fpX7_82 : FP RX7 82 7 20 .int := ⟨RX7, TX7, 27, tyX7, rfl, by decide, inlX7, Or.inl (wR13 _ (List.mem_of_getElem? (i := 14) rfl)), tyX7_ok, nmX7, rfl, by decide +kernel⟩
theorem flX7_85 : FL RX7 85 7 22 := ⟨RX7, TX7, 27, rfl, by decide, inlX7, Or.inl (wR13 _ (List.mem_of_getElem? (i := 19) rfl))⟩
theorem fpX7_85 : FP RX7 85 7 22 .int := ⟨RX7, TX7, 27, tyX7, rfl, by decide, inlX7, Or.inl (wR13 _ (List.mem_of_getElem? (i := 19) rfl)), tyX7_ok, nmX7, rfl, by decide +kernel⟩
theorem flX7_99 : FL RX7 99 7 13 := ⟨RX7, TX7, 27, rfl, by decide, inlX7, Or.inl (wR13 _ (List.mem_of_getElem? (i := 3) rfl))⟩
theorem fpX7_99 : FP RX7 99 7 13 .int := ⟨RX7, TX7, 27, tyX7, rfl, by decide, inlX7, Or.inl (wR13 _ (List.mem_of_getElem? (i := 3) rfl)), tyX7_ok, nmX7, rfl, by decide +kernel⟩
theorem flX7_102 : FL RX7 102 7 14 := ⟨RX7, TX7, 27, rfl, by decide, inlX7, Or.inl (wR13 _ (List.mem_of_getElem? (i := 5) rfl))⟩
theorem fpX7_102 : FP RX7 102 7 14 .int := ⟨RX7, TX7, 27, tyX7, rfl, by decide, inlX7, Or.inl (wR13 _ (List.mem_of_getElem? (i := 5) rfl)), tyX7_ok, nmX7, rfl, by decide +kernel⟩
theorem flX7_105 : FL RX7 105 7 12 := ⟨RX7, TX7, 27, rfl, by decide, inlX7, Or.inl (wR13 _ (List.mem_of_getElem? (i := 1) rfl))⟩
theorem fpX7_105 : FP RX7 105 7 12 .int := ⟨RX7, TX7, 27, tyX7, rfl, by decide, inlX7, Or.inl (wR13 _ (List.mem_of_getElem? (i := 1) rfl)), tyX7_ok, nmX7, rfl, by decide +kernel⟩
theorem flX7_111 : FL RX7 111 7 15 := ⟨RX7, TX7, 27, rfl, by decide, inlX7, Or.inl (wR13 _ (List.mem_of_getElem? (i := 7) rfl))⟩
theorem fpX7_111 : FP RX7 111 7 15 .int := ⟨RX7, TX7, 27, tyX7, rfl, by decide, inlX7, Or.inl (wR13 _ (List.mem_of_getElem? (i := 7) rfl)), tyX7_ok, nmX7, rfl, by decide +kernel⟩
theorem flX7_128 : FL RX7 128 7 11 := ⟨RX7, TX7, 27, rfl, by decide, inlX7, Or.inl (wR13 _ (List.mem_of_getElem? (i := 8) rfl))⟩
theorem fpX7_128 : FP RX7 128 7 11 .int := ⟨RX7, TX7, 27, tyX7, rfl, by decide, inlX7, Or.inl (wR13 _ (List.mem_of_getElem? (i := 8) rfl)), tyX7_ok, nmX7, rfl, by decide +kernel⟩
theorem flX7_203 : FL RX7 203 7 1 := ⟨RX7, TX7, 27, rfl, by decide, inlX7, Or.inl (wR29 _ (List.mem_of_getElem? (i := 6) rfl))⟩
theorem fpX7_203 : FP RX7 203 7 1 .long := ⟨RX7, TX7, 27, tyX7, rfl, by decide, inlX7, Or.inl (wR29 _ (List.mem_of_getElem? (i := 6) rfl)), tyX7_ok, nmX7, rfl, by decide +kernel⟩
end
section

theorem tsw_3 (x : Int32) : x = 0 ∨ x = 1 ∨ x = 2 ∨ (x.toInt < 0 ∨ 2 < x.toInt) := by
  by_cases h : x.toInt < 0 ∨ 2 < x.toInt
  · exact Or.inr (Or.inr (Or.inr h))
  · have : x.toInt = 0 ∨ x.toInt = 1 ∨ x.toInt = 2 := by omega
    rcases this with h | h | h
    · exact Or.inl (Int32.toInt_inj.mp h)
    · exact Or.inr (Or.inl (Int32.toInt_inj.mp h))
    · exact Or.inr (Or.inr (Or.inl (Int32.toInt_inj.mp h)))
theorem ri_ok {v w : Int32} {M M' : Mem} (h : w = v) (hm : M = M') : (some (Value.int w) = some (Value.int v) ∧ M = M') := ⟨by rw [h], hm⟩
theorem rv_ok {M M' : Mem} (hm : M = M') : ((none : Option Value) = none ∧ M = M') := ⟨rfl, hm⟩
def hasF (x c : Int32) : Int32 := if x &&& shl 1 c = 0 then 0 else 1
theorem in_of {i : Int32} {n : Nat} (hn : n < 2 ^ 31) (h0 : ¬ i < 0) (h1 : ¬ Int32.ofNat n ≤ i) : vp_in i n := by
  rcases pk_ix i hn with h | h | ⟨j, hj, rfl⟩
  · exact absurd h h0
  · exact absurd h h1
  · exact vp_in_nI hj hn
def atF (n : Nat) (f : Nat → Int32) (i : Int32) : Int32 := if i < 0 ∨ Int32.ofNat n ≤ i then 0 else f i.toNatClampNeg
def putM (M : Mem) (o n : Nat) (i x : Int32) : Mem := if i < 0 ∨ Int32.ofNat n ≤ i then M else upI M o i.toNatClampNeg x
def cpyF (n : Nat) (f h : Nat → Int32) : Nat → Int32 := va_cpy f h 0 0 n
theorem arr5 : ArrO 5 4 := ⟨by decide, by decide, fun _ _ _ => rfl⟩
theorem arr6 : ArrO 6 4 := ⟨by decide, by decide, fun _ _ _ => rfl⟩
theorem arr8 : ArrO 8 4 := ⟨by decide, by decide, fun _ _ _ => rfl⟩
theorem arr9 : ArrO 9 4 := ⟨by decide, by decide, fun _ _ _ => rfl⟩
theorem arr3 : ArrO 3 300 := ⟨by decide, by decide, fun _ _ _ => rfl⟩
theorem arr12 : ArrO 12 256 := ⟨by decide, by decide, fun _ _ _ => rfl⟩
theorem arr14 : ArrO 14 24 := ⟨by decide, by decide, fun _ _ _ => rfl⟩
theorem arr15 : ArrO 15 24 := ⟨by decide, by decide, fun _ _ _ => rfl⟩
theorem arr16 : ArrO 16 4 := ⟨by decide, by decide, fun _ _ _ => rfl⟩
theorem arr18 : ArrO 18 24 := ⟨by decide, by decide, fun _ _ _ => rfl⟩
theorem arr19 : ArrO 19 24 := ⟨by decide, by decide, fun _ _ _ => rfl⟩
theorem arr20 : ArrO 20 4 := ⟨by decide, by decide, fun _ _ _ => rfl⟩
theorem arr22 : ArrO 22 24 := ⟨by decide, by decide, fun _ _ _ => rfl⟩
theorem arr23 : ArrO 23 24 := ⟨by decide, by decide, fun _ _ _ => rfl⟩
theorem arr24 : ArrO 24 4 := ⟨by decide, by decide, fun _ _ _ => rfl⟩

theorem sp_at {g : GG} {M : Mem} {o n : Nat} {i : Int32} (ha : ArrO o n) : RI g mX6_at [ob g o, .int i] M (atF n (M.1 o) i) M := by
  refine spec_of_wp (ls := [some (ob g o), some (.int i)]) rfl (Nat.le_of_ble_eq_true rfl) 0 rfl ?_
  refine wp_iload_n (pc' := 1) dX6_at_0 rfl rfl ?_
  refine wp_if_lt (pc' := 4) 16 dX6_at_1 rfl (by decide) (fun h1 => ?_) (fun h1 => ?_)
  · refine wp_iconst (pc' := 17) 0 dX6_at_16 rfl (by decide) ?_
    refine wp_ireti dX6_at_17 rfl ?_
    exact ri_ok (by simp [atF, *]) rfl
  · refine wp_iload_n (pc' := 5) dX6_at_4 rfl rfl ?_
    refine wp_aload_n (pc' := 6) dX6_at_5 rfl rfl ⟨_, rfl⟩ ?_
    refine wp_alen (pc' := 7) (o := o) (n := n) (v := Int32.ofNat n) dX6_at_6 rfl ha.1 (ha.2.2 _ _ _) rfl ?_
    refine wp_icmp_ge (pc' := 10) 16 dX6_at_7 rfl (by decide) (fun h7 => ?_) (fun h7 => ?_)
    · refine wp_iconst (pc' := 17) 0 dX6_at_16 rfl (by decide) ?_
      refine wp_ireti dX6_at_17 rfl ?_
      exact ri_ok (by simp [atF, *]) rfl
    · refine wp_aload_n (pc' := 11) dX6_at_10 rfl rfl ⟨_, rfl⟩ ?_
      refine wp_iload_n (pc' := 12) dX6_at_11 rfl rfl ?_
      refine wp_iald (pc' := 13) (o := o) (n := n) dX6_at_12 rfl ha.1 (ha.2.2 _ _ _) (in_of ha.2.1 h1 h7) ?_
      refine wp_goto 17 dX6_at_13 (by decide) ?_
      refine wp_ireti dX6_at_17 rfl ?_
      exact ri_ok (by simp [atF, *]) rfl
theorem sp_put {g : GG} {M : Mem} {o n : Nat} {i x : Int32} (ha : ArrO o n) : RV g mX6_put [ob g o, .int i, .int x] M (putM M o n i x) := by
  refine spec_of_wp (ls := [some (ob g o), some (.int i), some (.int x)]) rfl (Nat.le_of_ble_eq_true rfl) 0 rfl ?_
  refine wp_iload_n (pc' := 1) dX6_put_0 rfl rfl ?_
  refine wp_if_lt (pc' := 4) 14 dX6_put_1 rfl (by decide) (fun h1 => ?_) (fun h1 => ?_)
  · refine wp_vret dX6_put_14 rfl ?_
    exact rv_ok (by simp [putM, *])
  · refine wp_iload_n (pc' := 5) dX6_put_4 rfl rfl ?_
    refine wp_aload_n (pc' := 6) dX6_put_5 rfl rfl ⟨_, rfl⟩ ?_
    refine wp_alen (pc' := 7) (o := o) (n := n) (v := Int32.ofNat n) dX6_put_6 rfl ha.1 (ha.2.2 _ _ _) rfl ?_
    refine wp_icmp_ge (pc' := 10) 14 dX6_put_7 rfl (by decide) (fun h7 => ?_) (fun h7 => ?_)
    · refine wp_vret dX6_put_14 rfl ?_
      exact rv_ok (by simp [putM, *])
    · refine wp_aload_n (pc' := 11) dX6_put_10 rfl rfl ⟨_, rfl⟩ ?_
      refine wp_iload_n (pc' := 12) dX6_put_11 rfl rfl ?_
      refine wp_iload_n (pc' := 13) dX6_put_12 rfl rfl ?_
      refine wp_iast (pc' := 14) (o := o) (n := n) dX6_put_13 rfl ha.1 (fun _ _ => ha.2.2 _ _ _) (in_of ha.2.1 h1 h7) ?_
      refine wp_vret dX6_put_14 rfl ?_
      exact rv_ok (by simp [putM, *])
theorem sp_copyRow {g : GG} {M : Mem} {o1 o2 n : Nat} (ha : ArrO o1 n) (hb : ArrO o2 n) : RV g mX6_copyRow [ob g o1, ob g o2] M (setO M o2 (cpyF n (M.1 o1) (M.1 o2))) := by
  refine spec_of_wp (ls := [some (ob g o1), some (ob g o2)]) rfl (Nat.le_of_ble_eq_true rfl) 0 rfl ?_
  refine wp_aload_n (pc' := 1) dX6_copyRow_0 rfl rfl ⟨_, rfl⟩ ?_
  refine wp_iconst (pc' := 2) 0 dX6_copyRow_1 rfl (by decide) ?_
  refine wp_aload_n (pc' := 3) dX6_copyRow_2 rfl rfl ⟨_, rfl⟩ ?_
  refine wp_iconst (pc' := 4) 0 dX6_copyRow_3 rfl (by decide) ?_
  refine wp_aload_n (pc' := 5) dX6_copyRow_4 rfl rfl ⟨_, rfl⟩ ?_
  refine wp_alen (pc' := 6) (o := o1) (n := n) (v := Int32.ofNat n) dX6_copyRow_5 rfl ha.1 (ha.2.2 _ _ _) rfl ?_
  refine wp_aload_n (pc' := 7) dX6_copyRow_6 rfl rfl ⟨_, rfl⟩ ?_
  refine wp_alen (pc' := 8) (o := o2) (n := n) (v := Int32.ofNat n) dX6_copyRow_7 rfl hb.1 (hb.2.2 _ _ _) rfl ?_
  refine wp_mmin (pc' := 11) dX6_copyRow_8 rfl mlX6_252 (Nat.le_of_ble_eq_true rfl) (Nat.le_of_ble_eq_true rfl) ?_
  rw [ite_self]
  refine wp_copy (pc' := 14) (o1 := o1) (o2 := o2) (n1 := n) (n2 := n) dX6_copyRow_11 rfl mlX6_255 ha hb (by decide) (by decide) (nI_pos (n := n) ha.2.1) (by show 0 + (nI n).toNatClampNeg ≤ n; rw [nI_clamp ha.2.1]; omega) (by show 0 + (nI n).toNatClampNeg ≤ n; rw [nI_clamp ha.2.1]; omega) (Nat.le_of_ble_eq_true rfl) (Nat.le_of_ble_eq_true rfl) ?_
  refine wp_vret dX6_copyRow_14 rfl ?_
  exact rv_ok (by show setO M o2 (va_cpy _ _ 0 0 (nI n).toNatClampNeg) = _; rw [nI_clamp ha.2.1]; rfl)
theorem sp_has {g : GG} {M : Mem} {x c : Int32} : RI g mX6_has [.int x, .int c] M (hasF x c) M := by
  refine spec_of_wp (ls := [some (.int x), some (.int c)]) rfl (Nat.le_of_ble_eq_true rfl) 0 rfl ?_
  refine wp_iload_n (pc' := 1) dX6_has_0 rfl rfl ?_
  refine wp_iconst (pc' := 2) 1 dX6_has_1 rfl (by decide) ?_
  refine wp_iload_n (pc' := 3) dX6_has_2 rfl rfl ?_
  refine wp_ishl (pc' := 4) dX6_has_3 rfl ?_
  refine wp_iand (pc' := 5) dX6_has_4 rfl ?_
  refine wp_if_eq (pc' := 8) 12 dX6_has_5 rfl (by decide) (fun h5 => ?_) (fun h5 => ?_)
  · refine wp_iconst (pc' := 13) 0 dX6_has_12 rfl (by decide) ?_
    refine wp_iretz dX6_has_13 rfl rfl ?_
    exact ri_ok (by simp [hasF, h5]) rfl
  · refine wp_iconst (pc' := 9) 1 dX6_has_8 rfl (by decide) ?_
    refine wp_goto 13 dX6_has_9 (by decide) ?_
    refine wp_iretz dX6_has_13 rfl rfl ?_
    exact ri_ok (by simp [hasF, h5]) rfl
def isCellF (M : Mem) (c : Int32) : Int32 := if c < 0 ∨ M.1 4 2 ≤ c then 0 else 1
theorem sp_isCell {g : GG} {M : Mem} {c : Int32} : RI g mX6_isCell [ob g 0, .int c] M (isCellF M c) M := by
  refine spec_of_wp (ls := [some (ob g 0), some (.int c)]) rfl (Nat.le_of_ble_eq_true rfl) 0 rfl ?_
  refine wp_iload_n (pc' := 1) dX6_isCell_0 rfl rfl ?_
  refine wp_if_lt (pc' := 4) 19 dX6_isCell_1 rfl (by decide) (fun h1 => ?_) (fun h1 => ?_)
  · refine wp_iconst (pc' := 20) 0 dX6_isCell_19 rfl (by decide) ?_
    refine wp_iretz dX6_isCell_20 rfl rfl ?_
    exact ri_ok (by simp [isCellF, *]) rfl
  · refine wp_iload_n (pc' := 5) dX6_isCell_4 rfl rfl ?_
    refine wp_aload_n (pc' := 6) dX6_isCell_5 rfl rfl ⟨_, rfl⟩ ?_
    refine wp_get (pc' := 9) (o := 0) dX6_isCell_6 rfl flX6_24 (by decide) rfl rfl ?_
    refine wp_get (pc' := 12) (o := 4) dX6_isCell_9 rfl flX6_224 (by decide) rfl rfl ?_
    refine wp_icmp_ge (pc' := 15) 19 dX6_isCell_12 rfl (by decide) (fun h12 => ?_) (fun h12 => ?_)
    · refine wp_iconst (pc' := 20) 0 dX6_isCell_19 rfl (by decide) ?_
      refine wp_iretz dX6_isCell_20 rfl rfl ?_
      exact ri_ok (by simp [isCellF, *]) rfl
    · refine wp_iconst (pc' := 16) 1 dX6_isCell_15 rfl (by decide) ?_
      refine wp_goto 20 dX6_isCell_16 (by decide) ?_
      refine wp_iretz dX6_isCell_20 rfl rfl ?_
      exact ri_ok (by simp [isCellF, *]) rfl
def isWalkerF (M : Mem) (c : Int32) : Int32 := if c < 0 ∨ M.1 4 7 ≤ c then 0 else 1
theorem sp_isWalker {g : GG} {M : Mem} {c : Int32} : RI g mX6_isWalker [ob g 0, .int c] M (isWalkerF M c) M := by
  refine spec_of_wp (ls := [some (ob g 0), some (.int c)]) rfl (Nat.le_of_ble_eq_true rfl) 0 rfl ?_
  refine wp_iload_n (pc' := 1) dX6_isWalker_0 rfl rfl ?_
  refine wp_if_lt (pc' := 4) 19 dX6_isWalker_1 rfl (by decide) (fun h1 => ?_) (fun h1 => ?_)
  · refine wp_iconst (pc' := 20) 0 dX6_isWalker_19 rfl (by decide) ?_
    refine wp_iretz dX6_isWalker_20 rfl rfl ?_
    exact ri_ok (by simp [isWalkerF, *]) rfl
  · refine wp_iload_n (pc' := 5) dX6_isWalker_4 rfl rfl ?_
    refine wp_aload_n (pc' := 6) dX6_isWalker_5 rfl rfl ⟨_, rfl⟩ ?_
    refine wp_get (pc' := 9) (o := 0) dX6_isWalker_6 rfl flX6_24 (by decide) rfl rfl ?_
    refine wp_get (pc' := 12) (o := 4) dX6_isWalker_9 rfl flX6_149 (by decide) rfl rfl ?_
    refine wp_icmp_ge (pc' := 15) 19 dX6_isWalker_12 rfl (by decide) (fun h12 => ?_) (fun h12 => ?_)
    · refine wp_iconst (pc' := 20) 0 dX6_isWalker_19 rfl (by decide) ?_
      refine wp_iretz dX6_isWalker_20 rfl rfl ?_
      exact ri_ok (by simp [isWalkerF, *]) rfl
    · refine wp_iconst (pc' := 16) 1 dX6_isWalker_15 rfl (by decide) ?_
      refine wp_goto 20 dX6_isWalker_16 (by decide) ?_
      refine wp_iretz dX6_isWalker_20 rfl rfl ?_
      exact ri_ok (by simp [isWalkerF, *]) rfl
def bearM (M : Mem) : Int32 := M.1 11 1 &&& (M.1 13 0 ^^^ (-1))
theorem sp_bearing {g : GG} {M : Mem} : RI g mX6_bearing [ob g 0] M (bearM M) M := by
  refine spec_of_wp (ls := [some (ob g 0)]) rfl (Nat.le_of_ble_eq_true rfl) 0 rfl ?_
  refine wp_aload_n (pc' := 1) dX6_bearing_0 rfl rfl ⟨_, rfl⟩ ?_
  refine wp_get (pc' := 4) (o := 0) dX6_bearing_1 rfl flX6_42 (by decide) rfl rfl ?_
  refine wp_get (pc' := 7) (o := 11) dX6_bearing_4 rfl flX6_155 (by decide) rfl rfl ?_
  refine wp_aload_n (pc' := 8) dX6_bearing_7 rfl rfl ⟨_, rfl⟩ ?_
  refine wp_get (pc' := 11) (o := 0) dX6_bearing_8 rfl flX6_46 (by decide) rfl rfl ?_
  refine wp_get (pc' := 14) (o := 13) dX6_bearing_11 rfl flX6_138 (by decide) rfl rfl ?_
  refine wp_iconst (pc' := 15) (-1) dX6_bearing_14 rfl (by decide) ?_
  refine wp_ixor (pc' := 16) dX6_bearing_15 rfl ?_
  refine wp_iand (pc' := 17) dX6_bearing_16 rfl ?_
  refine wp_ireti dX6_bearing_17 rfl ?_
  exact ri_ok rfl rfl
theorem sp_image0 {g : GG} {M : Mem} : RO g mX6_imageOf [ob g 0, .int 0] M 17 M := by
  refine spec_of_wp (ls := [some (ob g 0), some (.int 0)]) rfl (Nat.le_of_ble_eq_true rfl) 0 rfl ?_
  refine wp_iload_n (pc' := 1) dX6_imageOf_0 rfl rfl ?_
  refine wp_if_ne (pc' := 4) 11 dX6_imageOf_1 rfl (by decide) (fun hh => absurd hh (by decide)) (fun _ => ?_)
  refine wp_aload_n (pc' := 5) dX6_imageOf_4 rfl rfl ⟨_, rfl⟩ ?_
  refine wp_get (pc' := 8) (o := 0) dX6_imageOf_5 rfl flX6_50 (by decide) rfl rfl ?_
  refine wp_goto 15 dX6_imageOf_8 (by decide) ?_
  refine wp_aret dX6_imageOf_15 rfl ?_
  exact ⟨rfl, rfl⟩
theorem sp_image1 {g : GG} {M : Mem} : RO g mX6_imageOf [ob g 0, .int 1] M 21 M := by
  refine spec_of_wp (ls := [some (ob g 0), some (.int 1)]) rfl (Nat.le_of_ble_eq_true rfl) 0 rfl ?_
  refine wp_iload_n (pc' := 1) dX6_imageOf_0 rfl rfl ?_
  refine wp_if_ne (pc' := 4) 11 dX6_imageOf_1 rfl (by decide) (fun _ => ?_) (fun hh => absurd hh (by decide))
  refine wp_aload_n (pc' := 12) dX6_imageOf_11 rfl rfl ⟨_, rfl⟩ ?_
  refine wp_get (pc' := 15) (o := 0) dX6_imageOf_12 rfl flX6_53 (by decide) rfl rfl ?_
  refine wp_aret dX6_imageOf_15 rfl ?_
  exact ⟨rfl, rfl⟩

/-! Ways -/
def nearF (w al fc lc s : Int32) : Int32 :=
  let r := shl (s &&& (lc ^^^ (-1))) 1
  let l := ushr (s &&& (fc ^^^ (-1))) 1
  let d := shl s w &&& al
  let u := ushr s w
  (((r ||| l) ||| d) ||| u) ||| (((shl (r &&& (lc ^^^ (-1))) 1 ||| ushr (l &&& (fc ^^^ (-1))) 1) ||| (shl d w &&& al)) ||| ushr u w)
def nearM (M : Mem) (s : Int32) : Int32 := nearF (M.1 11 0) (M.1 11 1) (M.1 11 2) (M.1 11 3) s

theorem sp_near {g : GG} {M : Mem} {s : Int32} : RI g mX5_near [ob g 11, .int s] M (nearM M s) M := by
  refine spec_of_wp (ls := [some (ob g 11), some (.int s), none, none, none, none, none, none]) rfl (Nat.le_of_ble_eq_true rfl) 6 rfl ?_
  refine wp_iload_n (pc' := 1) dX5_near_0 rfl rfl ?_
  refine wp_aload_n (pc' := 2) dX5_near_1 rfl rfl ⟨_, rfl⟩ ?_
  refine wp_get (pc' := 5) (o := 11) dX5_near_2 rfl flX5_21 (by decide) rfl rfl ?_
  refine wp_iconst (pc' := 6) (-1) dX5_near_5 rfl (by decide) ?_
  refine wp_ixor (pc' := 7) dX5_near_6 rfl ?_
  refine wp_iand (pc' := 8) dX5_near_7 rfl ?_
  refine wp_iconst (pc' := 9) 1 dX5_near_8 rfl (by decide) ?_
  refine wp_ishl (pc' := 10) dX5_near_9 rfl ?_
  refine wp_ist2 (pc' := 11) dX5_near_10 rfl (by decide) rfl ?_
  refine wp_iload_n (pc' := 12) dX5_near_11 rfl rfl ?_
  refine wp_aload_n (pc' := 13) dX5_near_12 rfl rfl ⟨_, rfl⟩ ?_
  refine wp_get (pc' := 16) (o := 11) dX5_near_13 rfl flX5_18 (by decide) rfl rfl ?_
  refine wp_iconst (pc' := 17) (-1) dX5_near_16 rfl (by decide) ?_
  refine wp_ixor (pc' := 18) dX5_near_17 rfl ?_
  refine wp_iand (pc' := 19) dX5_near_18 rfl ?_
  refine wp_iconst (pc' := 20) 1 dX5_near_19 rfl (by decide) ?_
  refine wp_iushr (pc' := 21) dX5_near_20 rfl ?_
  refine wp_ist3 (pc' := 22) dX5_near_21 rfl (by decide) rfl ?_
  refine wp_iload_n (pc' := 23) dX5_near_22 rfl rfl ?_
  refine wp_aload_n (pc' := 24) dX5_near_23 rfl rfl ⟨_, rfl⟩ ?_
  refine wp_get (pc' := 27) (o := 11) dX5_near_24 rfl flX5_9 (by decide) rfl rfl ?_
  refine wp_ishl (pc' := 28) dX5_near_27 rfl ?_
  refine wp_aload_n (pc' := 29) dX5_near_28 rfl rfl ⟨_, rfl⟩ ?_
  refine wp_get (pc' := 32) (o := 11) dX5_near_29 rfl flX5_15 (by decide) rfl rfl ?_
  refine wp_iand (pc' := 33) dX5_near_32 rfl ?_
  refine wp_ist4 (pc' := 35) dX5_near_33 rfl (by decide) rfl ?_
  refine wp_iload_n (pc' := 36) dX5_near_35 rfl rfl ?_
  refine wp_aload_n (pc' := 37) dX5_near_36 rfl rfl ⟨_, rfl⟩ ?_
  refine wp_get (pc' := 40) (o := 11) dX5_near_37 rfl flX5_9 (by decide) rfl rfl ?_
  refine wp_iushr (pc' := 41) dX5_near_40 rfl ?_
  refine wp_ist5 (pc' := 43) dX5_near_41 rfl (by decide) rfl ?_
  refine wp_iload_n (pc' := 44) dX5_near_43 rfl rfl ?_
  refine wp_iload_n (pc' := 45) dX5_near_44 rfl rfl ?_
  refine wp_ior (pc' := 46) dX5_near_45 rfl ?_
  refine wp_iload (pc' := 48) dX5_near_46 rfl rfl ?_
  refine wp_ior (pc' := 49) dX5_near_48 rfl ?_
  refine wp_iload (pc' := 51) dX5_near_49 rfl rfl ?_
  refine wp_ior (pc' := 52) dX5_near_51 rfl ?_
  refine wp_ist6 (pc' := 54) dX5_near_52 rfl (by decide) rfl ?_
  refine wp_iload_n (pc' := 55) dX5_near_54 rfl rfl ?_
  refine wp_aload_n (pc' := 56) dX5_near_55 rfl rfl ⟨_, rfl⟩ ?_
  refine wp_get (pc' := 59) (o := 11) dX5_near_56 rfl flX5_21 (by decide) rfl rfl ?_
  refine wp_iconst (pc' := 60) (-1) dX5_near_59 rfl (by decide) ?_
  refine wp_ixor (pc' := 61) dX5_near_60 rfl ?_
  refine wp_iand (pc' := 62) dX5_near_61 rfl ?_
  refine wp_iconst (pc' := 63) 1 dX5_near_62 rfl (by decide) ?_
  refine wp_ishl (pc' := 64) dX5_near_63 rfl ?_
  refine wp_iload_n (pc' := 65) dX5_near_64 rfl rfl ?_
  refine wp_aload_n (pc' := 66) dX5_near_65 rfl rfl ⟨_, rfl⟩ ?_
  refine wp_get (pc' := 69) (o := 11) dX5_near_66 rfl flX5_18 (by decide) rfl rfl ?_
  refine wp_iconst (pc' := 70) (-1) dX5_near_69 rfl (by decide) ?_
  refine wp_ixor (pc' := 71) dX5_near_70 rfl ?_
  refine wp_iand (pc' := 72) dX5_near_71 rfl ?_
  refine wp_iconst (pc' := 73) 1 dX5_near_72 rfl (by decide) ?_
  refine wp_iushr (pc' := 74) dX5_near_73 rfl ?_
  refine wp_ior (pc' := 75) dX5_near_74 rfl ?_
  refine wp_iload (pc' := 77) dX5_near_75 rfl rfl ?_
  refine wp_aload_n (pc' := 78) dX5_near_77 rfl rfl ⟨_, rfl⟩ ?_
  refine wp_get (pc' := 81) (o := 11) dX5_near_78 rfl flX5_9 (by decide) rfl rfl ?_
  refine wp_ishl (pc' := 82) dX5_near_81 rfl ?_
  refine wp_aload_n (pc' := 83) dX5_near_82 rfl rfl ⟨_, rfl⟩ ?_
  refine wp_get (pc' := 86) (o := 11) dX5_near_83 rfl flX5_15 (by decide) rfl rfl ?_
  refine wp_iand (pc' := 87) dX5_near_86 rfl ?_
  refine wp_ior (pc' := 88) dX5_near_87 rfl ?_
  refine wp_iload (pc' := 90) dX5_near_88 rfl rfl ?_
  refine wp_aload_n (pc' := 91) dX5_near_90 rfl rfl ⟨_, rfl⟩ ?_
  refine wp_get (pc' := 94) (o := 11) dX5_near_91 rfl flX5_9 (by decide) rfl rfl ?_
  refine wp_iushr (pc' := 95) dX5_near_94 rfl ?_
  refine wp_ior (pc' := 96) dX5_near_95 rfl ?_
  refine wp_ist7 (pc' := 98) dX5_near_96 rfl (by decide) rfl ?_
  refine wp_iload (pc' := 100) dX5_near_98 rfl rfl ?_
  refine wp_iload (pc' := 102) dX5_near_100 rfl rfl ?_
  refine wp_ior (pc' := 103) dX5_near_102 rfl ?_
  refine wp_ireti dX5_near_103 rfl ?_
  exact ri_ok rfl rfl

def spF (nr : Int32 → Int32) (bear : Int32) : Nat → Int32 → Int32
  | 0, r => r
  | n + 1, r => if r ||| (nr r &&& bear) = r then r else spF nr bear n (r ||| (nr r &&& bear))

theorem lp_spread {g : GG} {M : Mem} {bear : Int32} : ∀ (n j : Nat), j + n = 24 → ∀ (s r : Int32) (x5 : Option Value), wp g mX5_spread 5 [some (ob g 11), some (.int s), some (.int bear), some (.int r), some (.int (nI j)), x5] [] M (fun q m => q = some (.int (spF (nearM M) bear n r)) ∧ m = M) := by
  intro n
  induction n with
  | zero =>
    intro j hj s r x5
    obtain rfl : j = 24 := by omega
    refine wp_iload (pc' := 7) dX5_spread_5 rfl rfl ?_
    refine wp_bipush (pc' := 9) 24 dX5_spread_7 rfl (by decide) ?_
    refine wp_icmp_ge (pc' := 12) 40 dX5_spread_9 rfl (by decide) (fun _ => ?_) (fun hh => absurd hh (by decide))
    refine wp_iload_n (pc' := 41) dX5_spread_40 rfl rfl ?_
    refine wp_ireti dX5_spread_41 rfl ?_
    exact ri_ok rfl rfl
  | succ n ih =>
    intro j hj s r x5
    refine wp_iload (pc' := 7) dX5_spread_5 rfl rfl ?_
    refine wp_bipush (pc' := 9) 24 dX5_spread_7 rfl (by decide) ?_
    refine wp_icmp_ge (pc' := 12) 40 dX5_spread_9 rfl (by decide) (fun h9 => ?_) (fun h9 => ?_)
    · refine wp_iload_n (pc' := 41) dX5_spread_40 rfl rfl ?_
      refine wp_ireti dX5_spread_41 rfl ?_
      exact absurd h9 (nI_ge (a := j) (b := 24) (by omega) (by decide))
    · refine wp_iload_n (pc' := 13) dX5_spread_12 rfl rfl ?_
      refine wp_aload_n (pc' := 14) dX5_spread_13 rfl rfl ⟨_, rfl⟩ ?_
      refine wp_iload_n (pc' := 15) dX5_spread_14 rfl rfl ?_
      refine wp_cVI (μ' := mX5_near) (pc' := 18) (o := 11) dX5_spread_15 rfl mlX5_24 cfX5_near ⟨(Nat.le_of_ble_eq_true rfl), (Nat.le_of_ble_eq_true rfl)⟩ (sp_near) (by decide) rfl rfl rfl rfl rfl (Nat.le_of_ble_eq_true rfl) ?_
      refine wp_iload_n (pc' := 19) dX5_spread_18 rfl rfl ?_
      refine wp_iand (pc' := 20) dX5_spread_19 rfl ?_
      refine wp_ior (pc' := 21) dX5_spread_20 rfl ?_
      refine wp_ist5 (pc' := 23) dX5_spread_21 rfl (by decide) rfl ?_
      refine wp_iload (pc' := 25) dX5_spread_23 rfl rfl ?_
      refine wp_iload_n (pc' := 26) dX5_spread_25 rfl rfl ?_
      refine wp_icmp_ne (pc' := 29) 31 dX5_spread_26 rfl (by decide) (fun h26 => ?_) (fun h26 => ?_)
      · refine wp_iload (pc' := 33) dX5_spread_31 rfl rfl ?_
        refine wp_ist3 (pc' := 34) dX5_spread_33 rfl (by decide) rfl ?_
        refine wp_inc4 (pc' := 37) (nI (j + 1)) dX5_spread_34 rfl (by decide) rfl (nI_1 j) ?_
        refine wp_goto 5 dX5_spread_37 (by decide) ?_
        rw [spF, if_neg h26]
        exact ih (j + 1) (by omega) _ _ _
      · refine wp_iload_n (pc' := 30) dX5_spread_29 rfl rfl ?_
        refine wp_ireti dX5_spread_30 rfl ?_
        exact ri_ok (by rw [spF, if_pos h26]) rfl
theorem sp_spread {g : GG} {M : Mem} {s bear : Int32} : RI g mX5_spread [ob g 11, .int s, .int bear] M (spF (nearM M) bear 24 s) M := by
  refine spec_of_wp (ls := [some (ob g 11), some (.int s), some (.int bear), none, none, none]) rfl (Nat.le_of_ble_eq_true rfl) 3 rfl ?_
  refine wp_iload_n (pc' := 1) dX5_spread_0 rfl rfl ?_
  refine wp_ist3 (pc' := 2) dX5_spread_1 rfl (by decide) rfl ?_
  refine wp_iconst (pc' := 3) 0 dX5_spread_2 rfl (by decide) ?_
  refine wp_ist4 (pc' := 5) dX5_spread_3 rfl (by decide) rfl ?_
  exact lp_spread 24 0 rfl _ _ _

def joF (nr : Int32 → Int32) (a b bear : Int32) : Int32 := if hasF bear a = 0 ∨ hasF bear b = 0 ∨ hasF (spF nr bear 24 (shl 1 a)) b = 0 then 0 else 1

theorem sp_joins {g : GG} {M : Mem} {a b bear : Int32} : RI g mX5_joins [ob g 11, .int a, .int b, .int bear] M (joF (nearM M) a b bear) M := by
  refine spec_of_wp (ls := [some (ob g 11), some (.int a), some (.int b), some (.int bear)]) rfl (Nat.le_of_ble_eq_true rfl) 0 rfl ?_
  refine wp_iload_n (pc' := 1) dX5_joins_0 rfl rfl ?_
  refine wp_iload_n (pc' := 2) dX5_joins_1 rfl rfl ?_
  refine wp_cSI (μ' := mX6_has) (pc' := 5) dX5_joins_2 rfl mlX5_28 cfX6_has ⟨(Nat.le_of_ble_eq_true rfl), (Nat.le_of_ble_eq_true rfl)⟩ (sp_has) rfl rfl (Nat.le_of_ble_eq_true rfl) ?_
  refine wp_if_eq (pc' := 8) 35 dX5_joins_5 rfl (by decide) (fun h5 => ?_) (fun h5 => ?_)
  · refine wp_iconst (pc' := 36) 0 dX5_joins_35 rfl (by decide) ?_
    refine wp_iretz dX5_joins_36 rfl rfl ?_
    exact ri_ok (by unfold joF; rw [if_pos (Or.inl h5)]) rfl
  · refine wp_iload_n (pc' := 9) dX5_joins_8 rfl rfl ?_
    refine wp_iload_n (pc' := 10) dX5_joins_9 rfl rfl ?_
    refine wp_cSI (μ' := mX6_has) (pc' := 13) dX5_joins_10 rfl mlX5_28 cfX6_has ⟨(Nat.le_of_ble_eq_true rfl), (Nat.le_of_ble_eq_true rfl)⟩ (sp_has) rfl rfl (Nat.le_of_ble_eq_true rfl) ?_
    refine wp_if_eq (pc' := 16) 35 dX5_joins_13 rfl (by decide) (fun h13 => ?_) (fun h13 => ?_)
    · refine wp_iconst (pc' := 36) 0 dX5_joins_35 rfl (by decide) ?_
      refine wp_iretz dX5_joins_36 rfl rfl ?_
      exact ri_ok (by unfold joF; rw [if_pos (Or.inr (Or.inl h13))]) rfl
    · refine wp_aload_n (pc' := 17) dX5_joins_16 rfl rfl ⟨_, rfl⟩ ?_
      refine wp_iconst (pc' := 18) 1 dX5_joins_17 rfl (by decide) ?_
      refine wp_iload_n (pc' := 19) dX5_joins_18 rfl rfl ?_
      refine wp_ishl (pc' := 20) dX5_joins_19 rfl ?_
      refine wp_iload_n (pc' := 21) dX5_joins_20 rfl rfl ?_
      refine wp_cVI (μ' := mX5_spread) (pc' := 24) (o := 11) dX5_joins_21 rfl mlX5_32 cfX5_spread ⟨(Nat.le_of_ble_eq_true rfl), (Nat.le_of_ble_eq_true rfl)⟩ (sp_spread) (by decide) rfl rfl rfl rfl rfl (Nat.le_of_ble_eq_true rfl) ?_
      refine wp_iload_n (pc' := 25) dX5_joins_24 rfl rfl ?_
      refine wp_cSI (μ' := mX6_has) (pc' := 28) dX5_joins_25 rfl mlX5_28 cfX6_has ⟨(Nat.le_of_ble_eq_true rfl), (Nat.le_of_ble_eq_true rfl)⟩ (sp_has) rfl rfl (Nat.le_of_ble_eq_true rfl) ?_
      refine wp_if_eq (pc' := 31) 35 dX5_joins_28 rfl (by decide) (fun h28 => ?_) (fun h28 => ?_)
      · refine wp_iconst (pc' := 36) 0 dX5_joins_35 rfl (by decide) ?_
        refine wp_iretz dX5_joins_36 rfl rfl ?_
        exact ri_ok (by unfold joF; rw [if_pos (Or.inr (Or.inr h28))]) rfl
      · refine wp_iconst (pc' := 32) 1 dX5_joins_31 rfl (by decide) ?_
        refine wp_goto 36 dX5_joins_32 (by decide) ?_
        refine wp_iretz dX5_joins_36 rfl rfl ?_
        exact ri_ok (by unfold joF; rw [if_neg (fun h => h.elim h5 (fun h => h.elim h13 h28))]) rfl

def stF (nr : Int32 → Int32) (bear b : Int32) : Nat → Nat → Int32 → Int32
  | 0, _, _ => -9
  | n + 1, k, r => if hasF r b = 0 then (if r ||| (nr r &&& bear) = r then -9 else stF nr bear b n (k + 1) (r ||| (nr r &&& bear))) else nI k
def fsF (nr : Int32 → Int32) (a b bear : Int32) : Int32 := if hasF bear a = 0 ∨ hasF bear b = 0 then -9 else stF nr bear b 24 0 (shl 1 a)

theorem lp_fewestSteps {g : GG} {M : Mem} {a b bear : Int32} : ∀ (n j : Nat), j + n = 24 → ∀ (r : Int32) (x6 : Option Value), wp g mX5_fewestSteps 27 [some (ob g 11), some (.int a), some (.int b), some (.int bear), some (.int r), some (.int (nI j)), x6] [] M (fun q m => q = some (.int (stF (nearM M) bear b n j r)) ∧ m = M) := by
  intro n
  induction n with
  | zero =>
    intro j hj r x6
    obtain rfl : j = 24 := by omega
    refine wp_iload (pc' := 29) dX5_fewestSteps_27 rfl rfl ?_
    refine wp_bipush (pc' := 31) 24 dX5_fewestSteps_29 rfl (by decide) ?_
    refine wp_icmp_ge (pc' := 34) 79 dX5_fewestSteps_31 rfl (by decide) (fun _ => ?_) (fun hh => absurd hh (by decide))
    refine wp_bipush (pc' := 81) (-9) dX5_fewestSteps_79 rfl (by decide) ?_
    refine wp_ireti dX5_fewestSteps_81 rfl ?_
    exact ri_ok rfl rfl
  | succ n ih =>
    intro j hj r x6
    refine wp_iload (pc' := 29) dX5_fewestSteps_27 rfl rfl ?_
    refine wp_bipush (pc' := 31) 24 dX5_fewestSteps_29 rfl (by decide) ?_
    refine wp_icmp_ge (pc' := 34) 79 dX5_fewestSteps_31 rfl (by decide) (fun h31 => ?_) (fun h31 => ?_)
    · refine wp_bipush (pc' := 81) (-9) dX5_fewestSteps_79 rfl (by decide) ?_
      refine wp_ireti dX5_fewestSteps_81 rfl ?_
      exact absurd h31 (nI_ge (a := j) (b := 24) (by omega) (by decide))
    · refine wp_iload (pc' := 36) dX5_fewestSteps_34 rfl rfl ?_
      refine wp_iload_n (pc' := 37) dX5_fewestSteps_36 rfl rfl ?_
      refine wp_cSI (μ' := mX6_has) (pc' := 40) dX5_fewestSteps_37 rfl mlX5_28 cfX6_has ⟨(Nat.le_of_ble_eq_true rfl), (Nat.le_of_ble_eq_true rfl)⟩ (sp_has) rfl rfl (Nat.le_of_ble_eq_true rfl) ?_
      refine wp_if_eq (pc' := 43) 46 dX5_fewestSteps_40 rfl (by decide) (fun h40 => ?_) (fun h40 => ?_)
      · refine wp_iload (pc' := 48) dX5_fewestSteps_46 rfl rfl ?_
        refine wp_aload_n (pc' := 49) dX5_fewestSteps_48 rfl rfl ⟨_, rfl⟩ ?_
        refine wp_iload (pc' := 51) dX5_fewestSteps_49 rfl rfl ?_
        refine wp_cVI (μ' := mX5_near) (pc' := 54) (o := 11) dX5_fewestSteps_51 rfl mlX5_24 cfX5_near ⟨(Nat.le_of_ble_eq_true rfl), (Nat.le_of_ble_eq_true rfl)⟩ (sp_near) (by decide) rfl rfl rfl rfl rfl (Nat.le_of_ble_eq_true rfl) ?_
        refine wp_iload_n (pc' := 55) dX5_fewestSteps_54 rfl rfl ?_
        refine wp_iand (pc' := 56) dX5_fewestSteps_55 rfl ?_
        refine wp_ior (pc' := 57) dX5_fewestSteps_56 rfl ?_
        refine wp_ist6 (pc' := 59) dX5_fewestSteps_57 rfl (by decide) rfl ?_
        refine wp_iload (pc' := 61) dX5_fewestSteps_59 rfl rfl ?_
        refine wp_iload (pc' := 63) dX5_fewestSteps_61 rfl rfl ?_
        refine wp_icmp_ne (pc' := 66) 69 dX5_fewestSteps_63 rfl (by decide) (fun h63 => ?_) (fun h63 => ?_)
        · refine wp_iload (pc' := 71) dX5_fewestSteps_69 rfl rfl ?_
          refine wp_ist4 (pc' := 73) dX5_fewestSteps_71 rfl (by decide) rfl ?_
          refine wp_inc5 (pc' := 76) (nI (j + 1)) dX5_fewestSteps_73 rfl (by decide) rfl (nI_1 j) ?_
          refine wp_goto 27 dX5_fewestSteps_76 (by decide) ?_
          rw [stF, if_pos h40, if_neg h63]
          exact ih (j + 1) (by omega) _ _
        · refine wp_bipush (pc' := 68) (-9) dX5_fewestSteps_66 rfl (by decide) ?_
          refine wp_ireti dX5_fewestSteps_68 rfl ?_
          exact ri_ok (by rw [stF, if_pos h40, if_pos h63]) rfl
      · refine wp_iload (pc' := 45) dX5_fewestSteps_43 rfl rfl ?_
        refine wp_ireti dX5_fewestSteps_45 rfl ?_
        exact ri_ok (by rw [stF, if_neg h40]) rfl
theorem sp_fewestSteps {g : GG} {M : Mem} {a b bear : Int32} : RI g mX5_fewestSteps [ob g 11, .int a, .int b, .int bear] M (fsF (nearM M) a b bear) M := by
  refine spec_of_wp (ls := [some (ob g 11), some (.int a), some (.int b), some (.int bear), none, none, none]) rfl (Nat.le_of_ble_eq_true rfl) 3 rfl ?_
  refine wp_iload_n (pc' := 1) dX5_fewestSteps_0 rfl rfl ?_
  refine wp_iload_n (pc' := 2) dX5_fewestSteps_1 rfl rfl ?_
  refine wp_cSI (μ' := mX6_has) (pc' := 5) dX5_fewestSteps_2 rfl mlX5_28 cfX6_has ⟨(Nat.le_of_ble_eq_true rfl), (Nat.le_of_ble_eq_true rfl)⟩ (sp_has) rfl rfl (Nat.le_of_ble_eq_true rfl) ?_
  refine wp_if_eq (pc' := 8) 16 dX5_fewestSteps_5 rfl (by decide) (fun h5 => ?_) (fun h5 => ?_)
  · refine wp_bipush (pc' := 18) (-9) dX5_fewestSteps_16 rfl (by decide) ?_
    refine wp_ireti dX5_fewestSteps_18 rfl ?_
    exact ri_ok (by unfold fsF; first | rw [if_pos (Or.inl h5)] | rw [if_pos (Or.inr h13)]) rfl
  · refine wp_iload_n (pc' := 9) dX5_fewestSteps_8 rfl rfl ?_
    refine wp_iload_n (pc' := 10) dX5_fewestSteps_9 rfl rfl ?_
    refine wp_cSI (μ' := mX6_has) (pc' := 13) dX5_fewestSteps_10 rfl mlX5_28 cfX6_has ⟨(Nat.le_of_ble_eq_true rfl), (Nat.le_of_ble_eq_true rfl)⟩ (sp_has) rfl rfl (Nat.le_of_ble_eq_true rfl) ?_
    refine wp_if_ne (pc' := 16) 19 dX5_fewestSteps_13 rfl (by decide) (fun h13 => ?_) (fun h13 => ?_)
    · refine wp_iconst (pc' := 20) 1 dX5_fewestSteps_19 rfl (by decide) ?_
      refine wp_iload_n (pc' := 21) dX5_fewestSteps_20 rfl rfl ?_
      refine wp_ishl (pc' := 22) dX5_fewestSteps_21 rfl ?_
      refine wp_ist4 (pc' := 24) dX5_fewestSteps_22 rfl (by decide) rfl ?_
      refine wp_iconst (pc' := 25) 0 dX5_fewestSteps_24 rfl (by decide) ?_
      refine wp_ist5 (pc' := 27) dX5_fewestSteps_25 rfl (by decide) rfl ?_
      unfold fsF
      rw [if_neg (fun h => h.elim h5 h13)]
      exact lp_fewestSteps 24 0 rfl _ _
    · refine wp_bipush (pc' := 18) (-9) dX5_fewestSteps_16 rfl (by decide) ?_
      refine wp_ireti dX5_fewestSteps_18 rfl ?_
      exact ri_ok (by unfold fsF; first | rw [if_pos (Or.inl h5)] | rw [if_pos (Or.inr h13)]) rfl

def ncF (nr : Int32 → Int32) (a b bear left nx : Int32) : Nat → Nat → Int32
  | 0, _ => a
  | n + 1, j => if hasF nx (nI j) = 0 then ncF nr a b bear left nx n (j + 1) else if fsF nr (nI j) b bear = left - 1 then nI j else ncF nr a b bear left nx n (j + 1)
def nextF (nr : Int32 → Int32) (a b bear : Int32) : Int32 := ncF nr a b bear (fsF nr a b bear) (nr (shl 1 a) &&& bear) 24 0

theorem lp_nextCell {g : GG} {M : Mem} {a b bear left nx : Int32} : ∀ (n j : Nat), j + n = 24 → wp g mX5_nextCell 23 [some (ob g 11), some (.int a), some (.int b), some (.int bear), some (.int left), some (.int nx), some (.int (nI j))] [] M (fun q m => q = some (.int (ncF (nearM M) a b bear left nx n j)) ∧ m = M) := by
  intro n
  induction n with
  | zero =>
    intro j hj
    obtain rfl : j = 24 := by omega
    refine wp_iload (pc' := 25) dX5_nextCell_23 rfl rfl ?_
    refine wp_bipush (pc' := 27) 24 dX5_nextCell_25 rfl (by decide) ?_
    refine wp_icmp_ge (pc' := 30) 64 dX5_nextCell_27 rfl (by decide) (fun _ => ?_) (fun hh => absurd hh (by decide))
    refine wp_iload_n (pc' := 65) dX5_nextCell_64 rfl rfl ?_
    refine wp_ireti dX5_nextCell_65 rfl ?_
    exact ri_ok rfl rfl
  | succ n ih =>
    intro j hj
    refine wp_iload (pc' := 25) dX5_nextCell_23 rfl rfl ?_
    refine wp_bipush (pc' := 27) 24 dX5_nextCell_25 rfl (by decide) ?_
    refine wp_icmp_ge (pc' := 30) 64 dX5_nextCell_27 rfl (by decide) (fun h27 => ?_) (fun h27 => ?_)
    · refine wp_iload_n (pc' := 65) dX5_nextCell_64 rfl rfl ?_
      refine wp_ireti dX5_nextCell_65 rfl ?_
      exact absurd h27 (nI_ge (a := j) (b := 24) (by omega) (by decide))
    · refine wp_iload (pc' := 32) dX5_nextCell_30 rfl rfl ?_
      refine wp_iload (pc' := 34) dX5_nextCell_32 rfl rfl ?_
      refine wp_cSI (μ' := mX6_has) (pc' := 37) dX5_nextCell_34 rfl mlX5_28 cfX6_has ⟨(Nat.le_of_ble_eq_true rfl), (Nat.le_of_ble_eq_true rfl)⟩ (sp_has) rfl rfl (Nat.le_of_ble_eq_true rfl) ?_
      refine wp_if_eq (pc' := 40) 58 dX5_nextCell_37 rfl (by decide) (fun h37 => ?_) (fun h37 => ?_)
      · refine wp_inc6 (pc' := 61) (nI (j + 1)) dX5_nextCell_58 rfl (by decide) rfl (nI_1 j) ?_
        refine wp_goto 23 dX5_nextCell_61 (by decide) ?_
        rw [ncF, if_pos h37]
        exact ih (j + 1) (by omega)
      · refine wp_aload_n (pc' := 41) dX5_nextCell_40 rfl rfl ⟨_, rfl⟩ ?_
        refine wp_iload (pc' := 43) dX5_nextCell_41 rfl rfl ?_
        refine wp_iload_n (pc' := 44) dX5_nextCell_43 rfl rfl ?_
        refine wp_iload_n (pc' := 45) dX5_nextCell_44 rfl rfl ?_
        refine wp_cVI (μ' := mX5_fewestSteps) (pc' := 48) (o := 11) dX5_nextCell_45 rfl mlX5_36 cfX5_fewestSteps ⟨(Nat.le_of_ble_eq_true rfl), (Nat.le_of_ble_eq_true rfl)⟩ (sp_fewestSteps) (by decide) rfl rfl rfl rfl rfl (Nat.le_of_ble_eq_true rfl) ?_
        refine wp_iload (pc' := 50) dX5_nextCell_48 rfl rfl ?_
        refine wp_iconst (pc' := 51) 1 dX5_nextCell_50 rfl (by decide) ?_
        refine wp_isub (pc' := 52) dX5_nextCell_51 rfl ?_
        refine wp_icmp_ne (pc' := 55) 58 dX5_nextCell_52 rfl (by decide) (fun h52 => ?_) (fun h52 => ?_)
        · refine wp_inc6 (pc' := 61) (nI (j + 1)) dX5_nextCell_58 rfl (by decide) rfl (nI_1 j) ?_
          refine wp_goto 23 dX5_nextCell_61 (by decide) ?_
          rw [ncF, if_neg h37, if_neg h52]
          exact ih (j + 1) (by omega)
        · refine wp_iload (pc' := 57) dX5_nextCell_55 rfl rfl ?_
          refine wp_ireti dX5_nextCell_57 rfl ?_
          exact ri_ok (by rw [ncF, if_neg h37, if_pos h52]) rfl
theorem sp_nextCell {g : GG} {M : Mem} {a b bear : Int32} : RI g mX5_nextCell [ob g 11, .int a, .int b, .int bear] M (nextF (nearM M) a b bear) M := by
  refine spec_of_wp (ls := [some (ob g 11), some (.int a), some (.int b), some (.int bear), none, none, none]) rfl (Nat.le_of_ble_eq_true rfl) 3 rfl ?_
  refine wp_aload_n (pc' := 1) dX5_nextCell_0 rfl rfl ⟨_, rfl⟩ ?_
  refine wp_iload_n (pc' := 2) dX5_nextCell_1 rfl rfl ?_
  refine wp_iload_n (pc' := 3) dX5_nextCell_2 rfl rfl ?_
  refine wp_iload_n (pc' := 4) dX5_nextCell_3 rfl rfl ?_
  refine wp_cVI (μ' := mX5_fewestSteps) (pc' := 7) (o := 11) dX5_nextCell_4 rfl mlX5_36 cfX5_fewestSteps ⟨(Nat.le_of_ble_eq_true rfl), (Nat.le_of_ble_eq_true rfl)⟩ (sp_fewestSteps) (by decide) rfl rfl rfl rfl rfl (Nat.le_of_ble_eq_true rfl) ?_
  refine wp_ist4 (pc' := 9) dX5_nextCell_7 rfl (by decide) rfl ?_
  refine wp_aload_n (pc' := 10) dX5_nextCell_9 rfl rfl ⟨_, rfl⟩ ?_
  refine wp_iconst (pc' := 11) 1 dX5_nextCell_10 rfl (by decide) ?_
  refine wp_iload_n (pc' := 12) dX5_nextCell_11 rfl rfl ?_
  refine wp_ishl (pc' := 13) dX5_nextCell_12 rfl ?_
  refine wp_cVI (μ' := mX5_near) (pc' := 16) (o := 11) dX5_nextCell_13 rfl mlX5_24 cfX5_near ⟨(Nat.le_of_ble_eq_true rfl), (Nat.le_of_ble_eq_true rfl)⟩ (sp_near) (by decide) rfl rfl rfl rfl rfl (Nat.le_of_ble_eq_true rfl) ?_
  refine wp_iload_n (pc' := 17) dX5_nextCell_16 rfl rfl ?_
  refine wp_iand (pc' := 18) dX5_nextCell_17 rfl ?_
  refine wp_ist5 (pc' := 20) dX5_nextCell_18 rfl (by decide) rfl ?_
  refine wp_iconst (pc' := 21) 0 dX5_nextCell_20 rfl (by decide) ?_
  refine wp_ist6 (pc' := 23) dX5_nextCell_21 rfl (by decide) rfl ?_
  exact lp_nextCell 24 0 rfl

def fstF (nr : Int32 → Int32) (bear b : Int32) : Nat → Nat → Int32 → Int32
  | 0, k, _ => nI k
  | n + 1, k, r => if hasF r b = 0 then fstF nr bear b n (k + 1) (spF nr bear 24 (r ||| nr r)) else nI k
def stonesF (nr : Int32 → Int32) (a b bear : Int32) : Int32 := if hasF bear a = 0 then fstF nr bear b 23 1 (spF nr bear 24 (shl 1 a)) else fstF nr bear b 24 0 (spF nr bear 24 (shl 1 a))

theorem lp_fewestStones {g : GG} {M : Mem} {a b bear : Int32} : ∀ (n j : Nat), j + n = 24 → ∀ (r : Int32), wp g mX5_fewestStones 25 [some (ob g 11), some (.int a), some (.int b), some (.int bear), some (.int (nI j)), some (.int r)] [] M (fun q m => q = some (.int (fstF (nearM M) bear b n j r)) ∧ m = M) := by
  intro n
  induction n with
  | zero =>
    intro j hj r
    obtain rfl : j = 24 := by omega
    refine wp_iload (pc' := 27) dX5_fewestStones_25 rfl rfl ?_
    refine wp_iload_n (pc' := 28) dX5_fewestStones_27 rfl rfl ?_
    refine wp_cSI (μ' := mX6_has) (pc' := 31) dX5_fewestStones_28 rfl mlX5_28 cfX6_has ⟨(Nat.le_of_ble_eq_true rfl), (Nat.le_of_ble_eq_true rfl)⟩ (sp_has) rfl rfl (Nat.le_of_ble_eq_true rfl) ?_
    refine wp_if_ne (pc' := 34) 63 dX5_fewestStones_31 rfl (by decide) (fun h31 => ?_) (fun h31 => ?_)
    · refine wp_iload (pc' := 65) dX5_fewestStones_63 rfl rfl ?_
      refine wp_ireti dX5_fewestStones_65 rfl ?_
      exact ri_ok rfl rfl
    · refine wp_iload (pc' := 36) dX5_fewestStones_34 rfl rfl ?_
      refine wp_bipush (pc' := 38) 24 dX5_fewestStones_36 rfl (by decide) ?_
      refine wp_icmp_ge (pc' := 41) 63 dX5_fewestStones_38 rfl (by decide) (fun _ => ?_) (fun hh => absurd hh (by decide))
      refine wp_iload (pc' := 65) dX5_fewestStones_63 rfl rfl ?_
      refine wp_ireti dX5_fewestStones_65 rfl ?_
      exact ri_ok rfl rfl
  | succ n ih =>
    intro j hj r
    refine wp_iload (pc' := 27) dX5_fewestStones_25 rfl rfl ?_
    refine wp_iload_n (pc' := 28) dX5_fewestStones_27 rfl rfl ?_
    refine wp_cSI (μ' := mX6_has) (pc' := 31) dX5_fewestStones_28 rfl mlX5_28 cfX6_has ⟨(Nat.le_of_ble_eq_true rfl), (Nat.le_of_ble_eq_true rfl)⟩ (sp_has) rfl rfl (Nat.le_of_ble_eq_true rfl) ?_
    refine wp_if_ne (pc' := 34) 63 dX5_fewestStones_31 rfl (by decide) (fun h31 => ?_) (fun h31 => ?_)
    · refine wp_iload (pc' := 65) dX5_fewestStones_63 rfl rfl ?_
      refine wp_ireti dX5_fewestStones_65 rfl ?_
      exact ri_ok (by rw [fstF, if_neg h31]) rfl
    · refine wp_iload (pc' := 36) dX5_fewestStones_34 rfl rfl ?_
      refine wp_bipush (pc' := 38) 24 dX5_fewestStones_36 rfl (by decide) ?_
      refine wp_icmp_ge (pc' := 41) 63 dX5_fewestStones_38 rfl (by decide) (fun h38 => ?_) (fun h38 => ?_)
      · refine wp_iload (pc' := 65) dX5_fewestStones_63 rfl rfl ?_
        refine wp_ireti dX5_fewestStones_65 rfl ?_
        exact absurd h38 (nI_ge (a := j) (b := 24) (by omega) (by decide))
      · refine wp_aload_n (pc' := 42) dX5_fewestStones_41 rfl rfl ⟨_, rfl⟩ ?_
        refine wp_iload (pc' := 44) dX5_fewestStones_42 rfl rfl ?_
        refine wp_aload_n (pc' := 45) dX5_fewestStones_44 rfl rfl ⟨_, rfl⟩ ?_
        refine wp_iload (pc' := 47) dX5_fewestStones_45 rfl rfl ?_
        refine wp_cVI (μ' := mX5_near) (pc' := 50) (o := 11) dX5_fewestStones_47 rfl mlX5_24 cfX5_near ⟨(Nat.le_of_ble_eq_true rfl), (Nat.le_of_ble_eq_true rfl)⟩ (sp_near) (by decide) rfl rfl rfl rfl rfl (Nat.le_of_ble_eq_true rfl) ?_
        refine wp_ior (pc' := 51) dX5_fewestStones_50 rfl ?_
        refine wp_iload_n (pc' := 52) dX5_fewestStones_51 rfl rfl ?_
        refine wp_cVI (μ' := mX5_spread) (pc' := 55) (o := 11) dX5_fewestStones_52 rfl mlX5_32 cfX5_spread ⟨(Nat.le_of_ble_eq_true rfl), (Nat.le_of_ble_eq_true rfl)⟩ (sp_spread) (by decide) rfl rfl rfl rfl rfl (Nat.le_of_ble_eq_true rfl) ?_
        refine wp_ist5 (pc' := 57) dX5_fewestStones_55 rfl (by decide) rfl ?_
        refine wp_inc4 (pc' := 60) (nI (j + 1)) dX5_fewestStones_57 rfl (by decide) rfl (nI_1 j) ?_
        refine wp_goto 25 dX5_fewestStones_60 (by decide) ?_
        rw [fstF, if_pos h31]
        exact ih (j + 1) (by omega) _
theorem sp_fewestStones {g : GG} {M : Mem} {a b bear : Int32} : RI g mX5_fewestStones [ob g 11, .int a, .int b, .int bear] M (stonesF (nearM M) a b bear) M := by
  refine spec_of_wp (ls := [some (ob g 11), some (.int a), some (.int b), some (.int bear), none, none]) rfl (Nat.le_of_ble_eq_true rfl) 2 rfl ?_
  refine wp_iload_n (pc' := 1) dX5_fewestStones_0 rfl rfl ?_
  refine wp_iload_n (pc' := 2) dX5_fewestStones_1 rfl rfl ?_
  refine wp_cSI (μ' := mX6_has) (pc' := 5) dX5_fewestStones_2 rfl mlX5_28 cfX6_has ⟨(Nat.le_of_ble_eq_true rfl), (Nat.le_of_ble_eq_true rfl)⟩ (sp_has) rfl rfl (Nat.le_of_ble_eq_true rfl) ?_
  refine wp_if_eq (pc' := 8) 12 dX5_fewestStones_5 rfl (by decide) (fun h5 => ?_) (fun h5 => ?_)
  · refine wp_iconst (pc' := 13) 1 dX5_fewestStones_12 rfl (by decide) ?_
    refine wp_ist4 (pc' := 15) dX5_fewestStones_13 rfl (by decide) rfl ?_
    refine wp_aload_n (pc' := 16) dX5_fewestStones_15 rfl rfl ⟨_, rfl⟩ ?_
    refine wp_iconst (pc' := 17) 1 dX5_fewestStones_16 rfl (by decide) ?_
    refine wp_iload_n (pc' := 18) dX5_fewestStones_17 rfl rfl ?_
    refine wp_ishl (pc' := 19) dX5_fewestStones_18 rfl ?_
    refine wp_iload_n (pc' := 20) dX5_fewestStones_19 rfl rfl ?_
    refine wp_cVI (μ' := mX5_spread) (pc' := 23) (o := 11) dX5_fewestStones_20 rfl mlX5_32 cfX5_spread ⟨(Nat.le_of_ble_eq_true rfl), (Nat.le_of_ble_eq_true rfl)⟩ (sp_spread) (by decide) rfl rfl rfl rfl rfl (Nat.le_of_ble_eq_true rfl) ?_
    refine wp_ist5 (pc' := 25) dX5_fewestStones_23 rfl (by decide) rfl ?_
    unfold stonesF
    rw [if_pos h5]
    exact lp_fewestStones 23 1 rfl _
  · refine wp_iconst (pc' := 9) 0 dX5_fewestStones_8 rfl (by decide) ?_
    refine wp_goto 13 dX5_fewestStones_9 (by decide) ?_
    refine wp_ist4 (pc' := 15) dX5_fewestStones_13 rfl (by decide) rfl ?_
    refine wp_aload_n (pc' := 16) dX5_fewestStones_15 rfl rfl ⟨_, rfl⟩ ?_
    refine wp_iconst (pc' := 17) 1 dX5_fewestStones_16 rfl (by decide) ?_
    refine wp_iload_n (pc' := 18) dX5_fewestStones_17 rfl rfl ?_
    refine wp_ishl (pc' := 19) dX5_fewestStones_18 rfl ?_
    refine wp_iload_n (pc' := 20) dX5_fewestStones_19 rfl rfl ?_
    refine wp_cVI (μ' := mX5_spread) (pc' := 23) (o := 11) dX5_fewestStones_20 rfl mlX5_32 cfX5_spread ⟨(Nat.le_of_ble_eq_true rfl), (Nat.le_of_ble_eq_true rfl)⟩ (sp_spread) (by decide) rfl rfl rfl rfl rfl (Nat.le_of_ble_eq_true rfl) ?_
    refine wp_ist5 (pc' := 25) dX5_fewestStones_23 rfl (by decide) rfl ?_
    unfold stonesF
    rw [if_neg h5]
    exact lp_fewestStones 24 0 rfl _
theorem sp_stepsOf {g : GG} {M : Mem} {k : Int32} : RI g mX6_stepsOf [ob g 0, .int k] M (fsF (nearM M) (atF 4 (M.1 5) k) (atF 4 (M.1 6) k) (bearM M)) M := by
  refine spec_of_wp (ls := [some (ob g 0), some (.int k)]) rfl (Nat.le_of_ble_eq_true rfl) 0 rfl ?_
  refine wp_aload_n (pc' := 1) dX6_stepsOf_0 rfl rfl ⟨_, rfl⟩ ?_
  refine wp_get (pc' := 4) (o := 0) dX6_stepsOf_1 rfl flX6_42 (by decide) rfl rfl ?_
  refine wp_aload_n (pc' := 5) dX6_stepsOf_4 rfl rfl ⟨_, rfl⟩ ?_
  refine wp_get (pc' := 8) (o := 0) dX6_stepsOf_5 rfl flX6_24 (by decide) rfl rfl ?_
  refine wp_get (pc' := 11) (o := 4) dX6_stepsOf_8 rfl flX6_123 (by decide) rfl rfl ?_
  refine wp_iload_n (pc' := 12) dX6_stepsOf_11 rfl rfl ?_
  refine wp_cSI (μ' := mX6_at) (pc' := 15) dX6_stepsOf_12 rfl mlX6_113 cfX6_at ⟨(Nat.le_of_ble_eq_true rfl), (Nat.le_of_ble_eq_true rfl)⟩ (sp_at arr5) rfl rfl (Nat.le_of_ble_eq_true rfl) ?_
  refine wp_aload_n (pc' := 16) dX6_stepsOf_15 rfl rfl ⟨_, rfl⟩ ?_
  refine wp_get (pc' := 19) (o := 0) dX6_stepsOf_16 rfl flX6_24 (by decide) rfl rfl ?_
  refine wp_get (pc' := 22) (o := 4) dX6_stepsOf_19 rfl flX6_126 (by decide) rfl rfl ?_
  refine wp_iload_n (pc' := 23) dX6_stepsOf_22 rfl rfl ?_
  refine wp_cSI (μ' := mX6_at) (pc' := 26) dX6_stepsOf_23 rfl mlX6_113 cfX6_at ⟨(Nat.le_of_ble_eq_true rfl), (Nat.le_of_ble_eq_true rfl)⟩ (sp_at arr6) rfl rfl (Nat.le_of_ble_eq_true rfl) ?_
  refine wp_aload_n (pc' := 27) dX6_stepsOf_26 rfl rfl ⟨_, rfl⟩ ?_
  refine wp_cVI (μ' := mX6_bearing) (pc' := 30) (o := 0) dX6_stepsOf_27 rfl mlX6_169 cfX6_bearing ⟨(Nat.le_of_ble_eq_true rfl), (Nat.le_of_ble_eq_true rfl)⟩ (sp_bearing) (by decide) rfl rfl rfl rfl rfl (Nat.le_of_ble_eq_true rfl) ?_
  refine wp_cVI (μ' := mX5_fewestSteps) (pc' := 33) (o := 11) dX6_stepsOf_30 rfl mlX6_172 cfX5_fewestSteps ⟨(Nat.le_of_ble_eq_true rfl), (Nat.le_of_ble_eq_true rfl)⟩ (sp_fewestSteps) (by decide) rfl rfl rfl rfl rfl (Nat.le_of_ble_eq_true rfl) ?_
  refine wp_ireti dX6_stepsOf_33 rfl ?_
  exact ri_ok rfl rfl
end
section

def pcF (x : Int32) : Int32 :=
  let a := x - (ushr x 1 &&& 1431655765)
  let b := (a &&& 858993459) + (ushr a 2 &&& 858993459)
  let c := (b + ushr b 4) &&& 252645135
  let d := c + ushr c 8
  (d + ushr d 16) &&& 63

theorem sp_bitCount {g : GG} {M : Mem} {x : Int32} : RI g mJ6_bitCount_0f7a4 [.int x] M (pcF x) M := by
  refine spec_of_wp (ls := [some (.int x)]) rfl (Nat.le_of_ble_eq_true rfl) 0 rfl ?_
  refine wp_iload_n (pc' := 1) dJ6_bitCount_0f7a4_0 rfl rfl ?_
  refine wp_iload_n (pc' := 2) dJ6_bitCount_0f7a4_1 rfl rfl ?_
  refine wp_iconst (pc' := 3) 1 dJ6_bitCount_0f7a4_2 rfl (by decide) ?_
  refine wp_iushr (pc' := 4) dJ6_bitCount_0f7a4_3 rfl ?_
  refine wp_ldcw (pc' := 7) (1431655765) dJ6_bitCount_0f7a4_4 rfl (wR21 _ (List.mem_of_getElem? (i := 4) rfl)) ?_
  refine wp_iand (pc' := 8) dJ6_bitCount_0f7a4_7 rfl ?_
  refine wp_isub (pc' := 9) dJ6_bitCount_0f7a4_8 rfl ?_
  refine wp_ist0 (pc' := 10) dJ6_bitCount_0f7a4_9 rfl (by decide) rfl ?_
  refine wp_iload_n (pc' := 11) dJ6_bitCount_0f7a4_10 rfl rfl ?_
  refine wp_ldcw (pc' := 14) (858993459) dJ6_bitCount_0f7a4_11 rfl (wR21 _ (List.mem_of_getElem? (i := 5) rfl)) ?_
  refine wp_iand (pc' := 15) dJ6_bitCount_0f7a4_14 rfl ?_
  refine wp_iload_n (pc' := 16) dJ6_bitCount_0f7a4_15 rfl rfl ?_
  refine wp_iconst (pc' := 17) 2 dJ6_bitCount_0f7a4_16 rfl (by decide) ?_
  refine wp_iushr (pc' := 18) dJ6_bitCount_0f7a4_17 rfl ?_
  refine wp_ldcw (pc' := 21) (858993459) dJ6_bitCount_0f7a4_18 rfl (wR21 _ (List.mem_of_getElem? (i := 5) rfl)) ?_
  refine wp_iand (pc' := 22) dJ6_bitCount_0f7a4_21 rfl ?_
  refine wp_iadd (pc' := 23) dJ6_bitCount_0f7a4_22 rfl ?_
  refine wp_ist0 (pc' := 24) dJ6_bitCount_0f7a4_23 rfl (by decide) rfl ?_
  refine wp_iload_n (pc' := 25) dJ6_bitCount_0f7a4_24 rfl rfl ?_
  refine wp_iload_n (pc' := 26) dJ6_bitCount_0f7a4_25 rfl rfl ?_
  refine wp_iconst (pc' := 27) 4 dJ6_bitCount_0f7a4_26 rfl (by decide) ?_
  refine wp_iushr (pc' := 28) dJ6_bitCount_0f7a4_27 rfl ?_
  refine wp_iadd (pc' := 29) dJ6_bitCount_0f7a4_28 rfl ?_
  refine wp_ldcw (pc' := 32) (252645135) dJ6_bitCount_0f7a4_29 rfl (wR21 _ (List.mem_of_getElem? (i := 6) rfl)) ?_
  refine wp_iand (pc' := 33) dJ6_bitCount_0f7a4_32 rfl ?_
  refine wp_ist0 (pc' := 34) dJ6_bitCount_0f7a4_33 rfl (by decide) rfl ?_
  refine wp_iload_n (pc' := 35) dJ6_bitCount_0f7a4_34 rfl rfl ?_
  refine wp_iload_n (pc' := 36) dJ6_bitCount_0f7a4_35 rfl rfl ?_
  refine wp_bipush (pc' := 38) 8 dJ6_bitCount_0f7a4_36 rfl (by decide) ?_
  refine wp_iushr (pc' := 39) dJ6_bitCount_0f7a4_38 rfl ?_
  refine wp_iadd (pc' := 40) dJ6_bitCount_0f7a4_39 rfl ?_
  refine wp_ist0 (pc' := 41) dJ6_bitCount_0f7a4_40 rfl (by decide) rfl ?_
  refine wp_iload_n (pc' := 42) dJ6_bitCount_0f7a4_41 rfl rfl ?_
  refine wp_iload_n (pc' := 43) dJ6_bitCount_0f7a4_42 rfl rfl ?_
  refine wp_bipush (pc' := 45) 16 dJ6_bitCount_0f7a4_43 rfl (by decide) ?_
  refine wp_iushr (pc' := 46) dJ6_bitCount_0f7a4_45 rfl ?_
  refine wp_iadd (pc' := 47) dJ6_bitCount_0f7a4_46 rfl ?_
  refine wp_ist0 (pc' := 48) dJ6_bitCount_0f7a4_47 rfl (by decide) rfl ?_
  refine wp_iload_n (pc' := 49) dJ6_bitCount_0f7a4_48 rfl rfl ?_
  refine wp_bipush (pc' := 51) 63 dJ6_bitCount_0f7a4_49 rfl (by decide) ?_
  refine wp_iand (pc' := 52) dJ6_bitCount_0f7a4_51 rfl ?_
  refine wp_ireti dJ6_bitCount_0f7a4_52 rfl ?_
  exact ri_ok rfl rfl
theorem sp_coder {g : GG} {M : Mem} {i : Nat} (hi : i < 3) : RI g mJ0_coder_7d493 [sk g i] M 0 M := by
  refine spec_of_wp (ls := [some (sk g i)]) rfl (Nat.le_of_ble_eq_true rfl) 0 rfl ?_
  refine wp_gcomp (pc' := 3) dJ0_coder_7d493_0 rfl (wR8 _ (List.mem_of_getElem? (i := 15) rfl)) ?_
  refine wp_if_eq (pc' := 6) 13 dJ0_coder_7d493_3 rfl (by decide) (fun hh => absurd hh (by decide)) (fun _ => ?_)
  refine wp_aload_n (pc' := 7) dJ0_coder_7d493_6 rfl rfl ⟨_, rfl⟩ ?_
  refine wp_kcod (pc' := 10) (i := i) dJ0_coder_7d493_7 rfl (wR8 _ (List.mem_of_getElem? (i := 16) rfl)) hi ?_
  refine wp_goto 14 dJ0_coder_7d493_10 (by decide) ?_
  refine wp_iretz dJ0_coder_7d493_14 rfl rfl ?_
  exact ri_ok rfl rfl
theorem sp_isLatin1 {g : GG} {M : Mem} {i : Nat} (hi : i < 3) : RI g mJ0_isLatin1_aae02 [sk g i] M 1 M := by
  refine spec_of_wp (ls := [some (sk g i)]) rfl (Nat.le_of_ble_eq_true rfl) 0 rfl ?_
  refine wp_gcomp (pc' := 3) dJ0_isLatin1_aae02_0 rfl (wR8 _ (List.mem_of_getElem? (i := 15) rfl)) ?_
  refine wp_if_eq (pc' := 6) 17 dJ0_isLatin1_aae02_3 rfl (by decide) (fun hh => absurd hh (by decide)) (fun _ => ?_)
  refine wp_aload_n (pc' := 7) dJ0_isLatin1_aae02_6 rfl rfl ⟨_, rfl⟩ ?_
  refine wp_kcod (pc' := 10) (i := i) dJ0_isLatin1_aae02_7 rfl (wR8 _ (List.mem_of_getElem? (i := 16) rfl)) hi ?_
  refine wp_if_ne (pc' := 13) 17 dJ0_isLatin1_aae02_10 rfl (by decide) (fun hh => absurd hh (by decide)) (fun _ => ?_)
  refine wp_iconst (pc' := 14) 1 dJ0_isLatin1_aae02_13 rfl (by decide) ?_
  refine wp_goto 18 dJ0_isLatin1_aae02_14 (by decide) ?_
  refine wp_iretz dJ0_isLatin1_aae02_18 rfl rfl ?_
  exact ri_ok rfl rfl
theorem str_len : ∀ i, i < 3 → strLen.getD i 0 < 2 ^ 31 := by decide
theorem sp_slen {g : GG} {M : Mem} {i : Nat} (hi : i < 3) : RI g mJ0_length_8abf5 [sk g i] M (nI (strLen.getD i 0)) M := by
  refine spec_of_wp (ls := [some (sk g i)]) rfl (Nat.le_of_ble_eq_true rfl) 0 rfl ?_
  refine wp_aload_n (pc' := 1) dJ0_length_8abf5_0 rfl rfl ⟨_, rfl⟩ ?_
  refine wp_kval (pc' := 4) (i := i) dJ0_length_8abf5_1 rfl (wR8 _ (List.mem_of_getElem? (i := 10) rfl)) hi ?_
  refine wp_klen (pc' := 5) (i := i) (v := nI (strLen.getD i 0)) dJ0_length_8abf5_4 rfl hi rfl ?_
  refine wp_aload_n (pc' := 6) dJ0_length_8abf5_5 rfl rfl ⟨_, rfl⟩ ?_
  refine wp_callK (μ' := mJ0_coder_7d493) (pc' := 9) (i := i) dJ0_length_8abf5_6 rfl mlJ0_335 cfJ0_coder_7d493 ⟨(Nat.le_of_ble_eq_true rfl), (Nat.le_of_ble_eq_true rfl)⟩ (sp_coder hi) hi rfl rfl rfl (Nat.le_of_ble_eq_true rfl) ?_
  refine wp_ishr (pc' := 10) dJ0_length_8abf5_9 rfl ?_
  refine wp_ireti dJ0_length_8abf5_10 rfl ?_
  exact ri_ok (sc_shr0 (str_len i hi)) rfl
theorem sp_ck3n {g : GG} {M : Mem} {j n : Nat} (hj : j < n) (hn : n < 2 ^ 31) : RI g mJ3_checkIndex_8e157 [.int (nI j), .int (nI n), .null] M (nI j) M := by
  refine spec_of_wp (ls := [some (.int (nI j)), some (.int (nI n)), some .null]) rfl (Nat.le_of_ble_eq_true rfl) 0 rfl ?_
  refine wp_iload_n (pc' := 1) dJ3_checkIndex_8e157_0 rfl rfl ?_
  refine wp_if_lt (pc' := 4) 9 dJ3_checkIndex_8e157_1 rfl (by decide) (fun h1 => ?_) (fun h1 => ?_)
  · exact absurd h1 (nI_pos (by omega))
  · refine wp_iload_n (pc' := 5) dJ3_checkIndex_8e157_4 rfl rfl ?_
    refine wp_iload_n (pc' := 6) dJ3_checkIndex_8e157_5 rfl rfl ?_
    refine wp_icmp_lt (pc' := 9) 16 dJ3_checkIndex_8e157_6 rfl (by decide) (fun h6 => ?_) (fun h6 => ?_)
    · refine wp_iload_n (pc' := 17) dJ3_checkIndex_8e157_16 rfl rfl ?_
      refine wp_ireti dJ3_checkIndex_8e157_17 rfl ?_
      exact ri_ok rfl rfl
    · exact absurd (nI_lt hj hn) h6
theorem sp_ck3r {g : GG} {M : Mem} {j n t : Nat} (hj : j < n) (hn : n < 2 ^ 31) : RI g mJ3_checkIndex_8e157 [.int (nI j), .int (nI n), .ref t] M (nI j) M := by
  refine spec_of_wp (ls := [some (.int (nI j)), some (.int (nI n)), some (.ref t)]) rfl (Nat.le_of_ble_eq_true rfl) 0 rfl ?_
  refine wp_iload_n (pc' := 1) dJ3_checkIndex_8e157_0 rfl rfl ?_
  refine wp_if_lt (pc' := 4) 9 dJ3_checkIndex_8e157_1 rfl (by decide) (fun h1 => ?_) (fun h1 => ?_)
  · exact absurd h1 (nI_pos (by omega))
  · refine wp_iload_n (pc' := 5) dJ3_checkIndex_8e157_4 rfl rfl ?_
    refine wp_iload_n (pc' := 6) dJ3_checkIndex_8e157_5 rfl rfl ?_
    refine wp_icmp_lt (pc' := 9) 16 dJ3_checkIndex_8e157_6 rfl (by decide) (fun h6 => ?_) (fun h6 => ?_)
    · refine wp_iload_n (pc' := 17) dJ3_checkIndex_8e157_16 rfl rfl ?_
      refine wp_ireti dJ3_checkIndex_8e157_17 rfl ?_
      exact ri_ok rfl rfl
    · exact absurd (nI_lt hj hn) h6
theorem sp_ck3 {g : GG} {M : Mem} {j n : Nat} {v : Value} (hv : v = .null ∨ ∃ t : Nat, v = .ref t) (hj : j < n) (hn : n < 2 ^ 31) : RI g mJ3_checkIndex_8e157 [.int (nI j), .int (nI n), v] M (nI j) M := by
  rcases hv with rfl | ⟨t, rfl⟩
  · exact sp_ck3n hj hn
  · exact sp_ck3r hj hn
theorem sp_ck0 {g : GG} {M : Mem} {j n : Nat} (hj : j < n) (hn : n < 2 ^ 31) : RV g mJ0_checkIndex_df160 [.int (nI j), .int (nI n)] M M := by
  refine spec_of_wp (ls := [some (.int (nI j)), some (.int (nI n))]) rfl (Nat.le_of_ble_eq_true rfl) 0 rfl ?_
  refine wp_iload_n (pc' := 1) dJ0_checkIndex_df160_0 rfl rfl ?_
  refine wp_iload_n (pc' := 2) dJ0_checkIndex_df160_1 rfl rfl ?_
  refine wp_gsio (pc' := 5) dJ0_checkIndex_df160_2 rfl (wR9 _ (List.mem_of_getElem? (i := 8) rfl)) (fun fm hfm => ?_)
  refine wp_cSI (μ' := mJ3_checkIndex_8e157) (pc' := 8) dJ0_checkIndex_df160_5 rfl mlJ0_1059 cfJ3_checkIndex_8e157 ⟨(Nat.le_of_ble_eq_true rfl), (Nat.le_of_ble_eq_true rfl)⟩ (sp_ck3 hfm hj hn) rfl rfl (Nat.le_of_ble_eq_true rfl) ?_
  refine wp_pop (pc' := 9) dJ0_checkIndex_df160_8 rfl rfl ?_
  refine wp_vret dJ0_checkIndex_df160_9 rfl ?_
  exact rv_ok rfl
def chS (i j : Nat) : Int32 := (strB.getD i []).getD j 0 &&& 255
theorem sp_ch1 {g : GG} {M : Mem} {i j : Nat} (hi : i < 3) (hj : j < strLen.getD i 0) : RI g mJ1_charAt_3b067 [sv g i, .int (nI j)] M (chS i j) M := by
  refine spec_of_wp (ls := [some (sv g i), some (.int (nI j))]) rfl (Nat.le_of_ble_eq_true rfl) 0 rfl ?_
  refine wp_iload_n (pc' := 1) dJ1_charAt_3b067_0 rfl rfl ?_
  refine wp_aload_n (pc' := 2) dJ1_charAt_3b067_1 rfl rfl ⟨_, rfl⟩ ?_
  refine wp_klen (pc' := 3) (i := i) (v := nI (strLen.getD i 0)) dJ1_charAt_3b067_2 rfl hi rfl ?_
  refine wp_cSV (μ' := mJ0_checkIndex_df160) (pc' := 6) dJ1_charAt_3b067_3 rfl mlJ1_9 cfJ0_checkIndex_df160 ⟨(Nat.le_of_ble_eq_true rfl), (Nat.le_of_ble_eq_true rfl)⟩ (sp_ck0 hj (str_len _ hi)) rfl rfl (Nat.le_of_ble_eq_true rfl) ?_
  refine wp_aload_n (pc' := 7) dJ1_charAt_3b067_6 rfl rfl ⟨_, rfl⟩ ?_
  refine wp_iload_n (pc' := 8) dJ1_charAt_3b067_7 rfl rfl ?_
  refine wp_kbald (pc' := 9) (i := i) dJ1_charAt_3b067_8 rfl hi (vp_in_nI hj (str_len _ hi)) rfl ?_
  refine wp_sipush (pc' := 12) 255 dJ1_charAt_3b067_9 rfl (by decide) ?_
  refine wp_iand (pc' := 13) dJ1_charAt_3b067_12 rfl ?_
  refine wp_i2c (pc' := 14) dJ1_charAt_3b067_13 rfl ?_
  refine wp_iretz dJ1_charAt_3b067_14 rfl (by rw [sc_c2]; exact sc_nar _) ?_
  exact ri_ok (by rw [sc_c2, nI_clamp (Nat.lt_trans hj (str_len _ hi))]; rfl) rfl
theorem sp_charAt {g : GG} {M : Mem} {i j : Nat} (hi : i < 3) (hj : j < strLen.getD i 0) : RI g mJ0_charAt_5068e [sk g i, .int (nI j)] M (chS i j) M := by
  refine spec_of_wp (ls := [some (sk g i), some (.int (nI j))]) rfl (Nat.le_of_ble_eq_true rfl) 0 rfl ?_
  refine wp_aload_n (pc' := 1) dJ0_charAt_5068e_0 rfl rfl ⟨_, rfl⟩ ?_
  refine wp_callK (μ' := mJ0_isLatin1_aae02) (pc' := 4) (i := i) dJ0_charAt_5068e_1 rfl mlJ0_492 cfJ0_isLatin1_aae02 ⟨(Nat.le_of_ble_eq_true rfl), (Nat.le_of_ble_eq_true rfl)⟩ (sp_isLatin1 hi) hi rfl rfl rfl (Nat.le_of_ble_eq_true rfl) ?_
  refine wp_if_eq (pc' := 7) 16 dJ0_charAt_5068e_4 rfl (by decide) (fun hh => absurd hh (by decide)) (fun _ => ?_)
  refine wp_aload_n (pc' := 8) dJ0_charAt_5068e_7 rfl rfl ⟨_, rfl⟩ ?_
  refine wp_kval (pc' := 11) (i := i) dJ0_charAt_5068e_8 rfl (wR8 _ (List.mem_of_getElem? (i := 10) rfl)) hi ?_
  refine wp_iload_n (pc' := 12) dJ0_charAt_5068e_11 rfl rfl ?_
  refine wp_cSI (μ' := mJ1_charAt_3b067) (pc' := 15) dJ0_charAt_5068e_12 rfl mlJ0_495 cfJ1_charAt_3b067 ⟨(Nat.le_of_ble_eq_true rfl), (Nat.le_of_ble_eq_true rfl)⟩ (sp_ch1 hi hj) rfl rfl (Nat.le_of_ble_eq_true rfl) ?_
  refine wp_iretz dJ0_charAt_5068e_15 rfl (sc_nar _) ?_
  exact ri_ok rfl rfl
end
section

def isB (x : Int32) : Prop := narrow .boolean (.int x) = .int x ∧ fits .boolean (.int x) = true
/-! Text -/
def addM (M : Mem) (b : Int32) : Mem := if 300 ≤ M.1 2 1 then M else upI (putM M 3 300 (M.1 2 1) b) 2 1 ((putM M 3 300 (M.1 2 1) b).1 2 1 + 1)

theorem sp_add {g : GG} {M : Mem} {b : Int32} : RV g mX3_add [ob g 2, .int b] M (addM M b) := by
  refine spec_of_wp (ls := [some (ob g 2), some (.int b)]) rfl (Nat.le_of_ble_eq_true rfl) 0 rfl ?_
  refine wp_aload_n (pc' := 1) dX3_add_0 rfl rfl ⟨_, rfl⟩ ?_
  refine wp_get (pc' := 4) (o := 2) dX3_add_1 rfl flX3_15 (by decide) rfl rfl ?_
  refine wp_sipush (pc' := 7) 300 dX3_add_4 rfl (by decide) ?_
  refine wp_icmp_ge (pc' := 10) 32 dX3_add_7 rfl (by decide) (fun h7 => ?_) (fun h7 => ?_)
  · refine wp_vret dX3_add_32 rfl ?_
    exact rv_ok (by simp [addM, h7]; done)
  · refine wp_aload_n (pc' := 11) dX3_add_10 rfl rfl ⟨_, rfl⟩ ?_
    refine wp_get (pc' := 14) (o := 2) dX3_add_11 rfl flX3_9 (by decide) rfl rfl ?_
    refine wp_aload_n (pc' := 15) dX3_add_14 rfl rfl ⟨_, rfl⟩ ?_
    refine wp_get (pc' := 18) (o := 2) dX3_add_15 rfl flX3_15 (by decide) rfl rfl ?_
    refine wp_iload_n (pc' := 19) dX3_add_18 rfl rfl ?_
    refine wp_cSV (μ' := mX6_put) (pc' := 22) dX3_add_19 rfl mlX3_19 cfX6_put ⟨(Nat.le_of_ble_eq_true rfl), (Nat.le_of_ble_eq_true rfl)⟩ (sp_put arr3) rfl rfl (Nat.le_of_ble_eq_true rfl) ?_
    refine wp_aload_n (pc' := 23) dX3_add_22 rfl rfl ⟨_, rfl⟩ ?_
    refine wp_dup (pc' := 24) dX3_add_23 rfl rfl ?_
    refine wp_get (pc' := 27) (o := 2) dX3_add_24 rfl flX3_15 (by decide) rfl rfl ?_
    refine wp_iconst (pc' := 28) 1 dX3_add_27 rfl (by decide) ?_
    refine wp_iadd (pc' := 29) dX3_add_28 rfl ?_
    refine wp_put (pc' := 32) (o := 2) dX3_add_29 rfl fpX3_15 (by decide) rfl (Nat.le_of_ble_eq_true rfl) rfl ?_
    refine wp_vret dX3_add_32 rfl ?_
    exact rv_ok (by rw [addM, if_neg h7])
theorem sp_tempty {g : GG} {M : Mem} : RI g mX3_empty [ob g 2] M (M.1 2 1) (upI M 2 1 0) := by
  refine spec_of_wp (ls := [some (ob g 2), none]) rfl (Nat.le_of_ble_eq_true rfl) 1 rfl ?_
  refine wp_aload_n (pc' := 1) dX3_empty_0 rfl rfl ⟨_, rfl⟩ ?_
  refine wp_get (pc' := 4) (o := 2) dX3_empty_1 rfl flX3_15 (by decide) rfl rfl ?_
  refine wp_ist1 (pc' := 5) dX3_empty_4 rfl (by decide) rfl ?_
  refine wp_aload_n (pc' := 6) dX3_empty_5 rfl rfl ⟨_, rfl⟩ ?_
  refine wp_iconst (pc' := 7) 0 dX3_empty_6 rfl (by decide) ?_
  refine wp_put (pc' := 10) (o := 2) dX3_empty_7 rfl fpX3_15 (by decide) rfl (Nat.le_of_ble_eq_true rfl) rfl ?_
  refine wp_iload_n (pc' := 11) dX3_empty_10 rfl rfl ?_
  refine wp_ireti dX3_empty_11 rfl ?_
  exact ri_ok rfl rfl
def byF (M : Mem) (i : Int32) : Int32 := if i < 0 ∨ M.1 2 1 ≤ i ∨ 300 ≤ i then -1 else M.1 3 i.toNatClampNeg
theorem sp_byteAt {g : GG} {M : Mem} {i : Int32} : RI g mX3_byteAt [ob g 2, .int i] M (byF M i) M := by
  refine spec_of_wp (ls := [some (ob g 2), some (.int i)]) rfl (Nat.le_of_ble_eq_true rfl) 0 rfl ?_
  refine wp_iload_n (pc' := 1) dX3_byteAt_0 rfl rfl ?_
  refine wp_if_lt (pc' := 4) 30 dX3_byteAt_1 rfl (by decide) (fun h1 => ?_) (fun h1 => ?_)
  · refine wp_iconst (pc' := 31) (-1) dX3_byteAt_30 rfl (by decide) ?_
    refine wp_ireti dX3_byteAt_31 rfl ?_
    exact ri_ok (by rw [byF, if_pos (Or.inl h1)]) rfl
  · refine wp_iload_n (pc' := 5) dX3_byteAt_4 rfl rfl ?_
    refine wp_aload_n (pc' := 6) dX3_byteAt_5 rfl rfl ⟨_, rfl⟩ ?_
    refine wp_get (pc' := 9) (o := 2) dX3_byteAt_6 rfl flX3_15 (by decide) rfl rfl ?_
    refine wp_icmp_ge (pc' := 12) 30 dX3_byteAt_9 rfl (by decide) (fun h9 => ?_) (fun h9 => ?_)
    · refine wp_iconst (pc' := 31) (-1) dX3_byteAt_30 rfl (by decide) ?_
      refine wp_ireti dX3_byteAt_31 rfl ?_
      exact ri_ok (by rw [byF, if_pos (Or.inr (Or.inl h9))]) rfl
    · refine wp_iload_n (pc' := 13) dX3_byteAt_12 rfl rfl ?_
      refine wp_aload_n (pc' := 14) dX3_byteAt_13 rfl rfl ⟨_, rfl⟩ ?_
      refine wp_get (pc' := 17) (o := 2) dX3_byteAt_14 rfl flX3_9 (by decide) rfl rfl ?_
      refine wp_alen (pc' := 18) (o := 3) (n := 300) (v := 300) dX3_byteAt_17 rfl (by decide) rfl (by decide) ?_
      refine wp_icmp_ge (pc' := 21) 30 dX3_byteAt_18 rfl (by decide) (fun h18 => ?_) (fun h18 => ?_)
      · refine wp_iconst (pc' := 31) (-1) dX3_byteAt_30 rfl (by decide) ?_
        refine wp_ireti dX3_byteAt_31 rfl ?_
        exact ri_ok (by rw [byF, if_pos (Or.inr (Or.inr h18))]) rfl
      · refine wp_aload_n (pc' := 22) dX3_byteAt_21 rfl rfl ⟨_, rfl⟩ ?_
        refine wp_get (pc' := 25) (o := 2) dX3_byteAt_22 rfl flX3_9 (by decide) rfl rfl ?_
        refine wp_iload_n (pc' := 26) dX3_byteAt_25 rfl rfl ?_
        refine wp_iald (pc' := 27) (o := 3) (n := 300) dX3_byteAt_26 rfl (by decide) rfl (in_of (n := 300) (by decide) h1 h18) ?_
        refine wp_goto 31 dX3_byteAt_27 (by decide) ?_
        refine wp_ireti dX3_byteAt_31 rfl ?_
        exact ri_ok (by rw [byF, if_neg (fun h => h.elim h1 (fun h => h.elim h9 h18))]) rfl

def brF (M : Mem) (lo hi : Int32) : Nat → Int32 → Int32
  | 0, i => i
  | n + 1, i => if M.1 2 1 ≤ i ∨ byF M i < lo ∨ hi < byF M i then i else brF M lo hi n (i + 1)
theorem byF_300 (M : Mem) : byF M (nI 300) = -1 := by rw [byF, if_pos (Or.inr (Or.inr (by decide)))]

theorem lp_behindRun {g : GG} {M : Mem} {lo hi : Int32} (hlo : (-1 : Int32) < lo) : ∀ (n j : Nat), j + n = 300 → ∀ (x : Int32), wp g mX3_behindRun 3 [some (ob g 2), some (.int x), some (.int lo), some (.int hi), some (.int (nI j))] [] M (fun q m => q = some (.int (brF M lo hi n (nI j))) ∧ m = M) := by
  intro n
  induction n with
  | zero =>
    intro j hj x
    obtain rfl : j = 300 := by omega
    refine wp_iload (pc' := 5) dX3_behindRun_3 rfl rfl ?_
    refine wp_aload_n (pc' := 6) dX3_behindRun_5 rfl rfl ⟨_, rfl⟩ ?_
    refine wp_get (pc' := 9) (o := 2) dX3_behindRun_6 rfl flX3_15 (by decide) rfl rfl ?_
    refine wp_icmp_ge (pc' := 12) 38 dX3_behindRun_9 rfl (by decide) (fun h9 => ?_) (fun h9 => ?_)
    · refine wp_iload (pc' := 40) dX3_behindRun_38 rfl rfl ?_
      refine wp_ireti dX3_behindRun_40 rfl ?_
      exact ri_ok rfl rfl
    · refine wp_aload_n (pc' := 13) dX3_behindRun_12 rfl rfl ⟨_, rfl⟩ ?_
      refine wp_iload (pc' := 15) dX3_behindRun_13 rfl rfl ?_
      refine wp_cVI (μ' := mX3_byteAt) (pc' := 18) (o := 2) dX3_behindRun_15 rfl mlX3_23 cfX3_byteAt ⟨(Nat.le_of_ble_eq_true rfl), (Nat.le_of_ble_eq_true rfl)⟩ (sp_byteAt) (by decide) rfl rfl rfl rfl rfl (Nat.le_of_ble_eq_true rfl) ?_
      refine wp_iload_n (pc' := 19) dX3_behindRun_18 rfl rfl ?_
      refine wp_icmp_lt (pc' := 22) 38 dX3_behindRun_19 rfl (by decide) (fun h19 => ?_) (fun h19 => ?_)
      · refine wp_iload (pc' := 40) dX3_behindRun_38 rfl rfl ?_
        refine wp_ireti dX3_behindRun_40 rfl ?_
        exact ri_ok rfl rfl
      · exact absurd (by rw [byF_300]; exact hlo) h19
  | succ n ih =>
    intro j hj x
    refine wp_iload (pc' := 5) dX3_behindRun_3 rfl rfl ?_
    refine wp_aload_n (pc' := 6) dX3_behindRun_5 rfl rfl ⟨_, rfl⟩ ?_
    refine wp_get (pc' := 9) (o := 2) dX3_behindRun_6 rfl flX3_15 (by decide) rfl rfl ?_
    refine wp_icmp_ge (pc' := 12) 38 dX3_behindRun_9 rfl (by decide) (fun h9 => ?_) (fun h9 => ?_)
    · refine wp_iload (pc' := 40) dX3_behindRun_38 rfl rfl ?_
      refine wp_ireti dX3_behindRun_40 rfl ?_
      exact ri_ok (by rw [brF, if_pos (Or.inl h9)]) rfl
    · refine wp_aload_n (pc' := 13) dX3_behindRun_12 rfl rfl ⟨_, rfl⟩ ?_
      refine wp_iload (pc' := 15) dX3_behindRun_13 rfl rfl ?_
      refine wp_cVI (μ' := mX3_byteAt) (pc' := 18) (o := 2) dX3_behindRun_15 rfl mlX3_23 cfX3_byteAt ⟨(Nat.le_of_ble_eq_true rfl), (Nat.le_of_ble_eq_true rfl)⟩ (sp_byteAt) (by decide) rfl rfl rfl rfl rfl (Nat.le_of_ble_eq_true rfl) ?_
      refine wp_iload_n (pc' := 19) dX3_behindRun_18 rfl rfl ?_
      refine wp_icmp_lt (pc' := 22) 38 dX3_behindRun_19 rfl (by decide) (fun h19 => ?_) (fun h19 => ?_)
      · refine wp_iload (pc' := 40) dX3_behindRun_38 rfl rfl ?_
        refine wp_ireti dX3_behindRun_40 rfl ?_
        exact ri_ok (by rw [brF, if_pos (Or.inr (Or.inl h19))]) rfl
      · refine wp_aload_n (pc' := 23) dX3_behindRun_22 rfl rfl ⟨_, rfl⟩ ?_
        refine wp_iload (pc' := 25) dX3_behindRun_23 rfl rfl ?_
        refine wp_cVI (μ' := mX3_byteAt) (pc' := 28) (o := 2) dX3_behindRun_25 rfl mlX3_23 cfX3_byteAt ⟨(Nat.le_of_ble_eq_true rfl), (Nat.le_of_ble_eq_true rfl)⟩ (sp_byteAt) (by decide) rfl rfl rfl rfl rfl (Nat.le_of_ble_eq_true rfl) ?_
        refine wp_iload_n (pc' := 29) dX3_behindRun_28 rfl rfl ?_
        refine wp_icmp_gt (pc' := 32) 38 dX3_behindRun_29 rfl (by decide) (fun h29 => ?_) (fun h29 => ?_)
        · refine wp_iload (pc' := 40) dX3_behindRun_38 rfl rfl ?_
          refine wp_ireti dX3_behindRun_40 rfl ?_
          exact ri_ok (by rw [brF, if_pos (Or.inr (Or.inr h29))]) rfl
        · refine wp_inc4 (pc' := 35) (nI (j + 1)) dX3_behindRun_32 rfl (by decide) rfl (nI_1 j) ?_
          refine wp_goto 3 dX3_behindRun_35 (by decide) ?_
          rw [brF, if_neg (fun h => h.elim h9 (fun h => h.elim h19 h29)), nI_1]
          exact ih (j + 1) (by omega) _
theorem sp_behindRun {g : GG} {M : Mem} {lo hi : Int32} {j : Nat} (hlo : (-1 : Int32) < lo) (hj : j ≤ 300) : RI g mX3_behindRun [ob g 2, .int (nI j), .int lo, .int hi] M (brF M lo hi (300 - j) (nI j)) M := by
  refine spec_of_wp (ls := [some (ob g 2), some (.int (nI j)), some (.int lo), some (.int hi), none]) rfl (Nat.le_of_ble_eq_true rfl) 1 rfl ?_
  refine wp_iload_n (pc' := 1) dX3_behindRun_0 rfl rfl ?_
  refine wp_ist4 (pc' := 3) dX3_behindRun_1 rfl (by decide) rfl ?_
  exact lp_behindRun hlo (300 - j) j (by omega) _
/-! Told -/
def temptyM (M : Mem) : Mem := (upI (upI (upI (upI (upI (upI (upI (upI M 7 0 0) 7 1 0) 7 2 0) 7 3 0) 7 4 0) 7 5 0) 7 6 0) 7 7 0)
theorem sp_dempty {g : GG} {M : Mem} : RV g mX4_empty [ob g 7] M (temptyM M) := by
  refine spec_of_wp (ls := [some (ob g 7)]) rfl (Nat.le_of_ble_eq_true rfl) 0 rfl ?_
  refine wp_aload_n (pc' := 1) dX4_empty_0 rfl rfl ⟨_, rfl⟩ ?_
  refine wp_iconst (pc' := 2) 0 dX4_empty_1 rfl (by decide) ?_
  refine wp_put (pc' := 5) (o := 7) dX4_empty_2 rfl fpX4_18 (by decide) rfl (Nat.le_of_ble_eq_true rfl) rfl ?_
  refine wp_aload_n (pc' := 6) dX4_empty_5 rfl rfl ⟨_, rfl⟩ ?_
  refine wp_iconst (pc' := 7) 0 dX4_empty_6 rfl (by decide) ?_
  refine wp_put (pc' := 10) (o := 7) dX4_empty_7 rfl fpX4_22 (by decide) rfl (Nat.le_of_ble_eq_true rfl) rfl ?_
  refine wp_aload_n (pc' := 11) dX4_empty_10 rfl rfl ⟨_, rfl⟩ ?_
  refine wp_iconst (pc' := 12) 0 dX4_empty_11 rfl (by decide) ?_
  refine wp_put (pc' := 15) (o := 7) dX4_empty_12 rfl fpX4_25 (by decide) rfl (Nat.le_of_ble_eq_true rfl) rfl ?_
  refine wp_aload_n (pc' := 16) dX4_empty_15 rfl rfl ⟨_, rfl⟩ ?_
  refine wp_iconst (pc' := 17) 0 dX4_empty_16 rfl (by decide) ?_
  refine wp_put (pc' := 20) (o := 7) dX4_empty_17 rfl fpX4_28 (by decide) rfl (Nat.le_of_ble_eq_true rfl) rfl ?_
  refine wp_aload_n (pc' := 21) dX4_empty_20 rfl rfl ⟨_, rfl⟩ ?_
  refine wp_iconst (pc' := 22) 0 dX4_empty_21 rfl (by decide) ?_
  refine wp_put (pc' := 25) (o := 7) dX4_empty_22 rfl fpX4_31 (by decide) rfl (Nat.le_of_ble_eq_true rfl) rfl ?_
  refine wp_aload_n (pc' := 26) dX4_empty_25 rfl rfl ⟨_, rfl⟩ ?_
  refine wp_iconst (pc' := 27) 0 dX4_empty_26 rfl (by decide) ?_
  refine wp_put (pc' := 30) (o := 7) dX4_empty_27 rfl fpX4_34 (by decide) rfl (Nat.le_of_ble_eq_true rfl) rfl ?_
  refine wp_aload_n (pc' := 31) dX4_empty_30 rfl rfl ⟨_, rfl⟩ ?_
  refine wp_iconst (pc' := 32) 0 dX4_empty_31 rfl (by decide) ?_
  refine wp_putz (pc' := 35) (o := 7) dX4_empty_32 rfl fpX4_37 (by decide) rfl (Nat.le_of_ble_eq_true rfl) rfl rfl rfl ?_
  refine wp_aload_n (pc' := 36) dX4_empty_35 rfl rfl ⟨_, rfl⟩ ?_
  refine wp_iconst (pc' := 37) 0 dX4_empty_36 rfl (by decide) ?_
  refine wp_put (pc' := 40) (o := 7) dX4_empty_37 rfl fpX4_41 (by decide) rfl (Nat.le_of_ble_eq_true rfl) rfl ?_
  refine wp_vret dX4_empty_40 rfl ?_
  exact rv_ok rfl
def toldCopyM (M : Mem) : Mem := setO (setO (upI (upI (upI (upI (upI (upI (upI (upI M 4 0 (M.1 7 0)) 4 1 (M.1 7 1)) 4 2 (M.1 7 2)) 4 3 (M.1 7 3)) 4 4 (M.1 7 4)) 4 5 (M.1 7 5)) 4 6 (M.1 7 6)) 4 7 (M.1 7 7)) 5 (cpyF 4 (M.1 8) (M.1 5))) 6 (cpyF 4 (M.1 9) (M.1 6))
theorem sp_dcopy {g : GG} {M : Mem} (hB : isB (M.1 7 6)) : RV g mX4_copy [ob g 4, ob g 7] M (toldCopyM M) := by
  refine spec_of_wp (ls := [some (ob g 4), some (ob g 7)]) rfl (Nat.le_of_ble_eq_true rfl) 0 rfl ?_
  refine wp_aload_n (pc' := 1) dX4_copy_0 rfl rfl ⟨_, rfl⟩ ?_
  refine wp_aload_n (pc' := 2) dX4_copy_1 rfl rfl ⟨_, rfl⟩ ?_
  refine wp_get (pc' := 5) (o := 7) dX4_copy_2 rfl flX4_18 (by decide) rfl rfl ?_
  refine wp_put (pc' := 8) (o := 4) dX4_copy_5 rfl fpX4_18 (by decide) rfl (Nat.le_of_ble_eq_true rfl) rfl ?_
  refine wp_aload_n (pc' := 9) dX4_copy_8 rfl rfl ⟨_, rfl⟩ ?_
  refine wp_aload_n (pc' := 10) dX4_copy_9 rfl rfl ⟨_, rfl⟩ ?_
  refine wp_get (pc' := 13) (o := 7) dX4_copy_10 rfl flX4_22 (by decide) rfl rfl ?_
  refine wp_put (pc' := 16) (o := 4) dX4_copy_13 rfl fpX4_22 (by decide) rfl (Nat.le_of_ble_eq_true rfl) rfl ?_
  refine wp_aload_n (pc' := 17) dX4_copy_16 rfl rfl ⟨_, rfl⟩ ?_
  refine wp_aload_n (pc' := 18) dX4_copy_17 rfl rfl ⟨_, rfl⟩ ?_
  refine wp_get (pc' := 21) (o := 7) dX4_copy_18 rfl flX4_25 (by decide) rfl rfl ?_
  refine wp_put (pc' := 24) (o := 4) dX4_copy_21 rfl fpX4_25 (by decide) rfl (Nat.le_of_ble_eq_true rfl) rfl ?_
  refine wp_aload_n (pc' := 25) dX4_copy_24 rfl rfl ⟨_, rfl⟩ ?_
  refine wp_aload_n (pc' := 26) dX4_copy_25 rfl rfl ⟨_, rfl⟩ ?_
  refine wp_get (pc' := 29) (o := 7) dX4_copy_26 rfl flX4_28 (by decide) rfl rfl ?_
  refine wp_put (pc' := 32) (o := 4) dX4_copy_29 rfl fpX4_28 (by decide) rfl (Nat.le_of_ble_eq_true rfl) rfl ?_
  refine wp_aload_n (pc' := 33) dX4_copy_32 rfl rfl ⟨_, rfl⟩ ?_
  refine wp_aload_n (pc' := 34) dX4_copy_33 rfl rfl ⟨_, rfl⟩ ?_
  refine wp_get (pc' := 37) (o := 7) dX4_copy_34 rfl flX4_31 (by decide) rfl rfl ?_
  refine wp_put (pc' := 40) (o := 4) dX4_copy_37 rfl fpX4_31 (by decide) rfl (Nat.le_of_ble_eq_true rfl) rfl ?_
  refine wp_aload_n (pc' := 41) dX4_copy_40 rfl rfl ⟨_, rfl⟩ ?_
  refine wp_aload_n (pc' := 42) dX4_copy_41 rfl rfl ⟨_, rfl⟩ ?_
  refine wp_get (pc' := 45) (o := 7) dX4_copy_42 rfl flX4_34 (by decide) rfl rfl ?_
  refine wp_put (pc' := 48) (o := 4) dX4_copy_45 rfl fpX4_34 (by decide) rfl (Nat.le_of_ble_eq_true rfl) rfl ?_
  refine wp_aload_n (pc' := 49) dX4_copy_48 rfl rfl ⟨_, rfl⟩ ?_
  refine wp_aload_n (pc' := 50) dX4_copy_49 rfl rfl ⟨_, rfl⟩ ?_
  refine wp_get (pc' := 53) (o := 7) dX4_copy_50 rfl flX4_37 (by decide) rfl rfl ?_
  refine wp_putz (pc' := 56) (o := 4) dX4_copy_53 rfl fpX4_37 (by decide) rfl (Nat.le_of_ble_eq_true rfl) rfl hB.1 hB.2 ?_
  refine wp_aload_n (pc' := 57) dX4_copy_56 rfl rfl ⟨_, rfl⟩ ?_
  refine wp_aload_n (pc' := 58) dX4_copy_57 rfl rfl ⟨_, rfl⟩ ?_
  refine wp_get (pc' := 61) (o := 7) dX4_copy_58 rfl flX4_41 (by decide) rfl rfl ?_
  refine wp_put (pc' := 64) (o := 4) dX4_copy_61 rfl fpX4_41 (by decide) rfl (Nat.le_of_ble_eq_true rfl) rfl ?_
  refine wp_aload_n (pc' := 65) dX4_copy_64 rfl rfl ⟨_, rfl⟩ ?_
  refine wp_get (pc' := 68) (o := 7) dX4_copy_65 rfl flX4_9 (by decide) rfl rfl ?_
  refine wp_aload_n (pc' := 69) dX4_copy_68 rfl rfl ⟨_, rfl⟩ ?_
  refine wp_get (pc' := 72) (o := 4) dX4_copy_69 rfl flX4_9 (by decide) rfl rfl ?_
  refine wp_cSV (μ' := mX6_copyRow) (pc' := 75) dX4_copy_72 rfl mlX4_44 cfX6_copyRow ⟨(Nat.le_of_ble_eq_true rfl), (Nat.le_of_ble_eq_true rfl)⟩ (sp_copyRow arr8 arr5) rfl rfl (Nat.le_of_ble_eq_true rfl) ?_
  refine wp_aload_n (pc' := 76) dX4_copy_75 rfl rfl ⟨_, rfl⟩ ?_
  refine wp_get (pc' := 79) (o := 7) dX4_copy_76 rfl flX4_15 (by decide) rfl rfl ?_
  refine wp_aload_n (pc' := 80) dX4_copy_79 rfl rfl ⟨_, rfl⟩ ?_
  refine wp_get (pc' := 83) (o := 4) dX4_copy_80 rfl flX4_15 (by decide) rfl rfl ?_
  refine wp_cSV (μ' := mX6_copyRow) (pc' := 86) dX4_copy_83 rfl mlX4_44 cfX6_copyRow ⟨(Nat.le_of_ble_eq_true rfl), (Nat.le_of_ble_eq_true rfl)⟩ (sp_copyRow arr9 arr6) rfl rfl (Nat.le_of_ble_eq_true rfl) ?_
  refine wp_vret dX4_copy_86 rfl ?_
  exact rv_ok rfl
def takesF (M : Mem) : Int32 := if 4 ≤ M.1 7 1 ∨ ¬ M.1 7 7 = 0 then 0 else 1
theorem sp_takesRow {g : GG} {M : Mem} : RI g mX4_takesRow [ob g 7] M (takesF M) M := by
  refine spec_of_wp (ls := [some (ob g 7)]) rfl (Nat.le_of_ble_eq_true rfl) 0 rfl ?_
  refine wp_aload_n (pc' := 1) dX4_takesRow_0 rfl rfl ⟨_, rfl⟩ ?_
  refine wp_get (pc' := 4) (o := 7) dX4_takesRow_1 rfl flX4_22 (by decide) rfl rfl ?_
  refine wp_iconst (pc' := 5) 4 dX4_takesRow_4 rfl (by decide) ?_
  refine wp_icmp_ge (pc' := 8) 19 dX4_takesRow_5 rfl (by decide) (fun h5 => ?_) (fun h5 => ?_)
  · refine wp_iconst (pc' := 20) 0 dX4_takesRow_19 rfl (by decide) ?_
    refine wp_iretz dX4_takesRow_20 rfl rfl ?_
    exact ri_ok (by rw [takesF, if_pos (Or.inl h5)]) rfl
  · refine wp_aload_n (pc' := 9) dX4_takesRow_8 rfl rfl ⟨_, rfl⟩ ?_
    refine wp_get (pc' := 12) (o := 7) dX4_takesRow_9 rfl flX4_41 (by decide) rfl rfl ?_
    refine wp_if_ne (pc' := 15) 19 dX4_takesRow_12 rfl (by decide) (fun h12 => ?_) (fun h12 => ?_)
    · refine wp_iconst (pc' := 20) 0 dX4_takesRow_19 rfl (by decide) ?_
      refine wp_iretz dX4_takesRow_20 rfl rfl ?_
      exact ri_ok (by rw [takesF, if_pos (Or.inr h12)]) rfl
    · refine wp_iconst (pc' := 16) 1 dX4_takesRow_15 rfl (by decide) ?_
      refine wp_goto 20 dX4_takesRow_16 (by decide) ?_
      refine wp_iretz dX4_takesRow_20 rfl rfl ?_
      exact ri_ok (by rw [takesF, if_neg (fun h => h.elim h5 (fun h => h h12))]) rfl
def rowBad (M : Mem) (l : Int32) : Prop := (M.1 7 1 = 0 ∧ ¬ l ≤ 6) ∨ (¬ M.1 7 1 = 0 ∧ ¬ l = M.1 7 0)
def browM (M : Mem) (l : Int32) : Mem := upI (upI M 7 0 l) 7 1 (M.1 7 1 + 1)
theorem sp_beginRow {g : GG} {M : Mem} {l : Int32} : SI g mX4_beginRow [ob g 7, .int l] M (fun x m => (x = 0 ∧ rowBad M l ∧ m = M) ∨ (x = 1 ∧ ¬ rowBad M l ∧ m = browM M l)) := by
  refine spec_of_wp (ls := [some (ob g 7), some (.int l)]) rfl (Nat.le_of_ble_eq_true rfl) 0 rfl ?_
  refine wp_aload_n (pc' := 1) dX4_beginRow_0 rfl rfl ⟨_, rfl⟩ ?_
  refine wp_get (pc' := 4) (o := 7) dX4_beginRow_1 rfl flX4_22 (by decide) rfl rfl ?_
  refine wp_if_ne (pc' := 7) 16 dX4_beginRow_4 rfl (by decide) (fun h4 => ?_) (fun h4 => ?_)
  · refine wp_iload_n (pc' := 17) dX4_beginRow_16 rfl rfl ?_
    refine wp_aload_n (pc' := 18) dX4_beginRow_17 rfl rfl ⟨_, rfl⟩ ?_
    refine wp_get (pc' := 21) (o := 7) dX4_beginRow_18 rfl flX4_18 (by decide) rfl rfl ?_
    refine wp_icmp_eq (pc' := 24) 26 dX4_beginRow_21 rfl (by decide) (fun h21 => ?_) (fun h21 => ?_)
    · refine wp_aload_n (pc' := 27) dX4_beginRow_26 rfl rfl ⟨_, rfl⟩ ?_
      refine wp_iload_n (pc' := 28) dX4_beginRow_27 rfl rfl ?_
      refine wp_put (pc' := 31) (o := 7) dX4_beginRow_28 rfl fpX4_18 (by decide) rfl (Nat.le_of_ble_eq_true rfl) rfl ?_
      refine wp_aload_n (pc' := 32) dX4_beginRow_31 rfl rfl ⟨_, rfl⟩ ?_
      refine wp_dup (pc' := 33) dX4_beginRow_32 rfl rfl ?_
      refine wp_get (pc' := 36) (o := 7) dX4_beginRow_33 rfl flX4_22 (by decide) rfl rfl ?_
      refine wp_iconst (pc' := 37) 1 dX4_beginRow_36 rfl (by decide) ?_
      refine wp_iadd (pc' := 38) dX4_beginRow_37 rfl ?_
      refine wp_put (pc' := 41) (o := 7) dX4_beginRow_38 rfl fpX4_22 (by decide) rfl (Nat.le_of_ble_eq_true rfl) rfl ?_
      refine wp_iconst (pc' := 42) 1 dX4_beginRow_41 rfl (by decide) ?_
      refine wp_iretz dX4_beginRow_42 rfl rfl ?_
      exact ⟨_, rfl, Or.inr ⟨rfl, fun h => h.elim (fun h => h4 h.1) (fun h => h.2 h21), rfl⟩⟩
    · refine wp_iconst (pc' := 25) 0 dX4_beginRow_24 rfl (by decide) ?_
      refine wp_iretz dX4_beginRow_25 rfl rfl ?_
      exact ⟨_, rfl, Or.inl ⟨rfl, Or.inr ⟨h4, h21⟩, rfl⟩⟩
  · refine wp_iload_n (pc' := 8) dX4_beginRow_7 rfl rfl ?_
    refine wp_bipush (pc' := 10) 6 dX4_beginRow_8 rfl (by decide) ?_
    refine wp_icmp_le (pc' := 13) 26 dX4_beginRow_10 rfl (by decide) (fun h10 => ?_) (fun h10 => ?_)
    · refine wp_aload_n (pc' := 27) dX4_beginRow_26 rfl rfl ⟨_, rfl⟩ ?_
      refine wp_iload_n (pc' := 28) dX4_beginRow_27 rfl rfl ?_
      refine wp_put (pc' := 31) (o := 7) dX4_beginRow_28 rfl fpX4_18 (by decide) rfl (Nat.le_of_ble_eq_true rfl) rfl ?_
      refine wp_aload_n (pc' := 32) dX4_beginRow_31 rfl rfl ⟨_, rfl⟩ ?_
      refine wp_dup (pc' := 33) dX4_beginRow_32 rfl rfl ?_
      refine wp_get (pc' := 36) (o := 7) dX4_beginRow_33 rfl flX4_22 (by decide) rfl rfl ?_
      refine wp_iconst (pc' := 37) 1 dX4_beginRow_36 rfl (by decide) ?_
      refine wp_iadd (pc' := 38) dX4_beginRow_37 rfl ?_
      refine wp_put (pc' := 41) (o := 7) dX4_beginRow_38 rfl fpX4_22 (by decide) rfl (Nat.le_of_ble_eq_true rfl) rfl ?_
      refine wp_iconst (pc' := 42) 1 dX4_beginRow_41 rfl (by decide) ?_
      refine wp_iretz dX4_beginRow_42 rfl rfl ?_
      exact ⟨_, rfl, Or.inr ⟨rfl, fun h => h.elim (fun h => h.2 h10) (fun h => h.1 h4), rfl⟩⟩
    · refine wp_goto 24 dX4_beginRow_13 (by decide) ?_
      refine wp_iconst (pc' := 25) 0 dX4_beginRow_24 rfl (by decide) ?_
      refine wp_iretz dX4_beginRow_25 rfl rfl ?_
      exact ⟨_, rfl, Or.inl ⟨rfl, Or.inl ⟨h4, h10⟩, rfl⟩⟩
def cellBad (l : Int32) : Prop := ¬ l = 104 ∧ ¬ l = 98 ∧ ¬ l = 115
def acB (M : Mem) (l : Int32) : Mem := if l = 98 then upI M 7 3 (M.1 7 3 ||| shl 1 (M.1 7 2)) else M
def acS (M : Mem) (l : Int32) : Mem := if l = 115 then upI M 7 4 (M.1 7 4 ||| shl 1 (M.1 7 2)) else M
def acM (M : Mem) (l : Int32) : Mem := upI (acS (acB M l) l) 7 2 ((acS (acB M l) l).1 7 2 + 1)
theorem sp_addCell {g : GG} {M : Mem} {l : Int32} : SI g mX4_addCell [ob g 7, .int l] M (fun x m => (x = 0 ∧ cellBad l ∧ m = M) ∨ (x = 1 ∧ ¬ cellBad l ∧ m = acM M l)) := by
  refine spec_of_wp (ls := [some (ob g 7), some (.int l)]) rfl (Nat.le_of_ble_eq_true rfl) 0 rfl ?_
  refine wp_iload_n (pc' := 1) dX4_addCell_0 rfl rfl ?_
  refine wp_bipush (pc' := 3) 104 dX4_addCell_1 rfl (by decide) ?_
  refine wp_icmp_eq (pc' := 6) 20 dX4_addCell_3 rfl (by decide) (fun h3 => ?_) (fun h3 => ?_)
  · refine wp_iload_n (pc' := 21) dX4_addCell_20 rfl rfl ?_
    refine wp_bipush (pc' := 23) 98 dX4_addCell_21 rfl (by decide) ?_
    refine wp_icmp_ne (pc' := 26) 41 dX4_addCell_23 rfl (by decide) (fun h23 => ?_) (fun h23 => ?_)
    · refine wp_iload_n (pc' := 42) dX4_addCell_41 rfl rfl ?_
      refine wp_bipush (pc' := 44) 115 dX4_addCell_42 rfl (by decide) ?_
      refine wp_icmp_ne (pc' := 47) 62 dX4_addCell_44 rfl (by decide) (fun h44 => ?_) (fun h44 => ?_)
      · refine wp_aload_n (pc' := 63) dX4_addCell_62 rfl rfl ⟨_, rfl⟩ ?_
        refine wp_dup (pc' := 64) dX4_addCell_63 rfl rfl ?_
        refine wp_get (pc' := 67) (o := 7) dX4_addCell_64 rfl flX4_25 (by decide) rfl rfl ?_
        refine wp_iconst (pc' := 68) 1 dX4_addCell_67 rfl (by decide) ?_
        refine wp_iadd (pc' := 69) dX4_addCell_68 rfl ?_
        refine wp_put (pc' := 72) (o := 7) dX4_addCell_69 rfl fpX4_25 (by decide) rfl (Nat.le_of_ble_eq_true rfl) rfl ?_
        refine wp_iconst (pc' := 73) 1 dX4_addCell_72 rfl (by decide) ?_
        refine wp_iretz dX4_addCell_73 rfl rfl ?_
        exact ⟨_, rfl, Or.inr ⟨rfl, fun h => h.1 h3, by rw [acM, acB, if_neg h23, acS, if_neg h44]⟩⟩
      · refine wp_aload_n (pc' := 48) dX4_addCell_47 rfl rfl ⟨_, rfl⟩ ?_
        refine wp_dup (pc' := 49) dX4_addCell_48 rfl rfl ?_
        refine wp_get (pc' := 52) (o := 7) dX4_addCell_49 rfl flX4_31 (by decide) rfl rfl ?_
        refine wp_iconst (pc' := 53) 1 dX4_addCell_52 rfl (by decide) ?_
        refine wp_aload_n (pc' := 54) dX4_addCell_53 rfl rfl ⟨_, rfl⟩ ?_
        refine wp_get (pc' := 57) (o := 7) dX4_addCell_54 rfl flX4_25 (by decide) rfl rfl ?_
        refine wp_ishl (pc' := 58) dX4_addCell_57 rfl ?_
        refine wp_ior (pc' := 59) dX4_addCell_58 rfl ?_
        refine wp_put (pc' := 62) (o := 7) dX4_addCell_59 rfl fpX4_31 (by decide) rfl (Nat.le_of_ble_eq_true rfl) rfl ?_
        refine wp_aload_n (pc' := 63) dX4_addCell_62 rfl rfl ⟨_, rfl⟩ ?_
        refine wp_dup (pc' := 64) dX4_addCell_63 rfl rfl ?_
        refine wp_get (pc' := 67) (o := 7) dX4_addCell_64 rfl flX4_25 (by decide) rfl rfl ?_
        refine wp_iconst (pc' := 68) 1 dX4_addCell_67 rfl (by decide) ?_
        refine wp_iadd (pc' := 69) dX4_addCell_68 rfl ?_
        refine wp_put (pc' := 72) (o := 7) dX4_addCell_69 rfl fpX4_25 (by decide) rfl (Nat.le_of_ble_eq_true rfl) rfl ?_
        refine wp_iconst (pc' := 73) 1 dX4_addCell_72 rfl (by decide) ?_
        refine wp_iretz dX4_addCell_73 rfl rfl ?_
        exact ⟨_, rfl, Or.inr ⟨rfl, fun h => h.1 h3, by rw [acM, acB, if_neg h23, acS, if_pos h44]⟩⟩
    · refine wp_aload_n (pc' := 27) dX4_addCell_26 rfl rfl ⟨_, rfl⟩ ?_
      refine wp_dup (pc' := 28) dX4_addCell_27 rfl rfl ?_
      refine wp_get (pc' := 31) (o := 7) dX4_addCell_28 rfl flX4_28 (by decide) rfl rfl ?_
      refine wp_iconst (pc' := 32) 1 dX4_addCell_31 rfl (by decide) ?_
      refine wp_aload_n (pc' := 33) dX4_addCell_32 rfl rfl ⟨_, rfl⟩ ?_
      refine wp_get (pc' := 36) (o := 7) dX4_addCell_33 rfl flX4_25 (by decide) rfl rfl ?_
      refine wp_ishl (pc' := 37) dX4_addCell_36 rfl ?_
      refine wp_ior (pc' := 38) dX4_addCell_37 rfl ?_
      refine wp_put (pc' := 41) (o := 7) dX4_addCell_38 rfl fpX4_28 (by decide) rfl (Nat.le_of_ble_eq_true rfl) rfl ?_
      refine wp_iload_n (pc' := 42) dX4_addCell_41 rfl rfl ?_
      refine wp_bipush (pc' := 44) 115 dX4_addCell_42 rfl (by decide) ?_
      refine wp_icmp_ne (pc' := 47) 62 dX4_addCell_44 rfl (by decide) (fun h44 => ?_) (fun h44 => ?_)
      · refine wp_aload_n (pc' := 63) dX4_addCell_62 rfl rfl ⟨_, rfl⟩ ?_
        refine wp_dup (pc' := 64) dX4_addCell_63 rfl rfl ?_
        refine wp_get (pc' := 67) (o := 7) dX4_addCell_64 rfl flX4_25 (by decide) rfl rfl ?_
        refine wp_iconst (pc' := 68) 1 dX4_addCell_67 rfl (by decide) ?_
        refine wp_iadd (pc' := 69) dX4_addCell_68 rfl ?_
        refine wp_put (pc' := 72) (o := 7) dX4_addCell_69 rfl fpX4_25 (by decide) rfl (Nat.le_of_ble_eq_true rfl) rfl ?_
        refine wp_iconst (pc' := 73) 1 dX4_addCell_72 rfl (by decide) ?_
        refine wp_iretz dX4_addCell_73 rfl rfl ?_
        exact ⟨_, rfl, Or.inr ⟨rfl, fun h => h.1 h3, by rw [acM, acB, if_pos h23, acS, if_neg h44]⟩⟩
      · refine wp_aload_n (pc' := 48) dX4_addCell_47 rfl rfl ⟨_, rfl⟩ ?_
        refine wp_dup (pc' := 49) dX4_addCell_48 rfl rfl ?_
        refine wp_get (pc' := 52) (o := 7) dX4_addCell_49 rfl flX4_31 (by decide) rfl rfl ?_
        refine wp_iconst (pc' := 53) 1 dX4_addCell_52 rfl (by decide) ?_
        refine wp_aload_n (pc' := 54) dX4_addCell_53 rfl rfl ⟨_, rfl⟩ ?_
        refine wp_get (pc' := 57) (o := 7) dX4_addCell_54 rfl flX4_25 (by decide) rfl rfl ?_
        refine wp_ishl (pc' := 58) dX4_addCell_57 rfl ?_
        refine wp_ior (pc' := 59) dX4_addCell_58 rfl ?_
        refine wp_put (pc' := 62) (o := 7) dX4_addCell_59 rfl fpX4_31 (by decide) rfl (Nat.le_of_ble_eq_true rfl) rfl ?_
        refine wp_aload_n (pc' := 63) dX4_addCell_62 rfl rfl ⟨_, rfl⟩ ?_
        refine wp_dup (pc' := 64) dX4_addCell_63 rfl rfl ?_
        refine wp_get (pc' := 67) (o := 7) dX4_addCell_64 rfl flX4_25 (by decide) rfl rfl ?_
        refine wp_iconst (pc' := 68) 1 dX4_addCell_67 rfl (by decide) ?_
        refine wp_iadd (pc' := 69) dX4_addCell_68 rfl ?_
        refine wp_put (pc' := 72) (o := 7) dX4_addCell_69 rfl fpX4_25 (by decide) rfl (Nat.le_of_ble_eq_true rfl) rfl ?_
        refine wp_iconst (pc' := 73) 1 dX4_addCell_72 rfl (by decide) ?_
        refine wp_iretz dX4_addCell_73 rfl rfl ?_
        exact ⟨_, rfl, Or.inr ⟨rfl, fun h => h.1 h3, by rw [acM, acB, if_pos h23, acS, if_pos h44]⟩⟩
  · refine wp_iload_n (pc' := 7) dX4_addCell_6 rfl rfl ?_
    refine wp_bipush (pc' := 9) 98 dX4_addCell_7 rfl (by decide) ?_
    refine wp_icmp_eq (pc' := 12) 20 dX4_addCell_9 rfl (by decide) (fun h9 => ?_) (fun h9 => ?_)
    · refine wp_iload_n (pc' := 21) dX4_addCell_20 rfl rfl ?_
      refine wp_bipush (pc' := 23) 98 dX4_addCell_21 rfl (by decide) ?_
      refine wp_icmp_ne (pc' := 26) 41 dX4_addCell_23 rfl (by decide) (fun h23 => ?_) (fun h23 => ?_)
      · refine wp_iload_n (pc' := 42) dX4_addCell_41 rfl rfl ?_
        refine wp_bipush (pc' := 44) 115 dX4_addCell_42 rfl (by decide) ?_
        refine wp_icmp_ne (pc' := 47) 62 dX4_addCell_44 rfl (by decide) (fun h44 => ?_) (fun h44 => ?_)
        · refine wp_aload_n (pc' := 63) dX4_addCell_62 rfl rfl ⟨_, rfl⟩ ?_
          refine wp_dup (pc' := 64) dX4_addCell_63 rfl rfl ?_
          refine wp_get (pc' := 67) (o := 7) dX4_addCell_64 rfl flX4_25 (by decide) rfl rfl ?_
          refine wp_iconst (pc' := 68) 1 dX4_addCell_67 rfl (by decide) ?_
          refine wp_iadd (pc' := 69) dX4_addCell_68 rfl ?_
          refine wp_put (pc' := 72) (o := 7) dX4_addCell_69 rfl fpX4_25 (by decide) rfl (Nat.le_of_ble_eq_true rfl) rfl ?_
          refine wp_iconst (pc' := 73) 1 dX4_addCell_72 rfl (by decide) ?_
          refine wp_iretz dX4_addCell_73 rfl rfl ?_
          exact ⟨_, rfl, Or.inr ⟨rfl, fun h => h.2.1 h9, by rw [acM, acB, if_neg h23, acS, if_neg h44]⟩⟩
        · refine wp_aload_n (pc' := 48) dX4_addCell_47 rfl rfl ⟨_, rfl⟩ ?_
          refine wp_dup (pc' := 49) dX4_addCell_48 rfl rfl ?_
          refine wp_get (pc' := 52) (o := 7) dX4_addCell_49 rfl flX4_31 (by decide) rfl rfl ?_
          refine wp_iconst (pc' := 53) 1 dX4_addCell_52 rfl (by decide) ?_
          refine wp_aload_n (pc' := 54) dX4_addCell_53 rfl rfl ⟨_, rfl⟩ ?_
          refine wp_get (pc' := 57) (o := 7) dX4_addCell_54 rfl flX4_25 (by decide) rfl rfl ?_
          refine wp_ishl (pc' := 58) dX4_addCell_57 rfl ?_
          refine wp_ior (pc' := 59) dX4_addCell_58 rfl ?_
          refine wp_put (pc' := 62) (o := 7) dX4_addCell_59 rfl fpX4_31 (by decide) rfl (Nat.le_of_ble_eq_true rfl) rfl ?_
          refine wp_aload_n (pc' := 63) dX4_addCell_62 rfl rfl ⟨_, rfl⟩ ?_
          refine wp_dup (pc' := 64) dX4_addCell_63 rfl rfl ?_
          refine wp_get (pc' := 67) (o := 7) dX4_addCell_64 rfl flX4_25 (by decide) rfl rfl ?_
          refine wp_iconst (pc' := 68) 1 dX4_addCell_67 rfl (by decide) ?_
          refine wp_iadd (pc' := 69) dX4_addCell_68 rfl ?_
          refine wp_put (pc' := 72) (o := 7) dX4_addCell_69 rfl fpX4_25 (by decide) rfl (Nat.le_of_ble_eq_true rfl) rfl ?_
          refine wp_iconst (pc' := 73) 1 dX4_addCell_72 rfl (by decide) ?_
          refine wp_iretz dX4_addCell_73 rfl rfl ?_
          exact ⟨_, rfl, Or.inr ⟨rfl, fun h => h.2.1 h9, by rw [acM, acB, if_neg h23, acS, if_pos h44]⟩⟩
      · refine wp_aload_n (pc' := 27) dX4_addCell_26 rfl rfl ⟨_, rfl⟩ ?_
        refine wp_dup (pc' := 28) dX4_addCell_27 rfl rfl ?_
        refine wp_get (pc' := 31) (o := 7) dX4_addCell_28 rfl flX4_28 (by decide) rfl rfl ?_
        refine wp_iconst (pc' := 32) 1 dX4_addCell_31 rfl (by decide) ?_
        refine wp_aload_n (pc' := 33) dX4_addCell_32 rfl rfl ⟨_, rfl⟩ ?_
        refine wp_get (pc' := 36) (o := 7) dX4_addCell_33 rfl flX4_25 (by decide) rfl rfl ?_
        refine wp_ishl (pc' := 37) dX4_addCell_36 rfl ?_
        refine wp_ior (pc' := 38) dX4_addCell_37 rfl ?_
        refine wp_put (pc' := 41) (o := 7) dX4_addCell_38 rfl fpX4_28 (by decide) rfl (Nat.le_of_ble_eq_true rfl) rfl ?_
        refine wp_iload_n (pc' := 42) dX4_addCell_41 rfl rfl ?_
        refine wp_bipush (pc' := 44) 115 dX4_addCell_42 rfl (by decide) ?_
        refine wp_icmp_ne (pc' := 47) 62 dX4_addCell_44 rfl (by decide) (fun h44 => ?_) (fun h44 => ?_)
        · refine wp_aload_n (pc' := 63) dX4_addCell_62 rfl rfl ⟨_, rfl⟩ ?_
          refine wp_dup (pc' := 64) dX4_addCell_63 rfl rfl ?_
          refine wp_get (pc' := 67) (o := 7) dX4_addCell_64 rfl flX4_25 (by decide) rfl rfl ?_
          refine wp_iconst (pc' := 68) 1 dX4_addCell_67 rfl (by decide) ?_
          refine wp_iadd (pc' := 69) dX4_addCell_68 rfl ?_
          refine wp_put (pc' := 72) (o := 7) dX4_addCell_69 rfl fpX4_25 (by decide) rfl (Nat.le_of_ble_eq_true rfl) rfl ?_
          refine wp_iconst (pc' := 73) 1 dX4_addCell_72 rfl (by decide) ?_
          refine wp_iretz dX4_addCell_73 rfl rfl ?_
          exact ⟨_, rfl, Or.inr ⟨rfl, fun h => h.2.1 h9, by rw [acM, acB, if_pos h23, acS, if_neg h44]⟩⟩
        · refine wp_aload_n (pc' := 48) dX4_addCell_47 rfl rfl ⟨_, rfl⟩ ?_
          refine wp_dup (pc' := 49) dX4_addCell_48 rfl rfl ?_
          refine wp_get (pc' := 52) (o := 7) dX4_addCell_49 rfl flX4_31 (by decide) rfl rfl ?_
          refine wp_iconst (pc' := 53) 1 dX4_addCell_52 rfl (by decide) ?_
          refine wp_aload_n (pc' := 54) dX4_addCell_53 rfl rfl ⟨_, rfl⟩ ?_
          refine wp_get (pc' := 57) (o := 7) dX4_addCell_54 rfl flX4_25 (by decide) rfl rfl ?_
          refine wp_ishl (pc' := 58) dX4_addCell_57 rfl ?_
          refine wp_ior (pc' := 59) dX4_addCell_58 rfl ?_
          refine wp_put (pc' := 62) (o := 7) dX4_addCell_59 rfl fpX4_31 (by decide) rfl (Nat.le_of_ble_eq_true rfl) rfl ?_
          refine wp_aload_n (pc' := 63) dX4_addCell_62 rfl rfl ⟨_, rfl⟩ ?_
          refine wp_dup (pc' := 64) dX4_addCell_63 rfl rfl ?_
          refine wp_get (pc' := 67) (o := 7) dX4_addCell_64 rfl flX4_25 (by decide) rfl rfl ?_
          refine wp_iconst (pc' := 68) 1 dX4_addCell_67 rfl (by decide) ?_
          refine wp_iadd (pc' := 69) dX4_addCell_68 rfl ?_
          refine wp_put (pc' := 72) (o := 7) dX4_addCell_69 rfl fpX4_25 (by decide) rfl (Nat.le_of_ble_eq_true rfl) rfl ?_
          refine wp_iconst (pc' := 73) 1 dX4_addCell_72 rfl (by decide) ?_
          refine wp_iretz dX4_addCell_73 rfl rfl ?_
          exact ⟨_, rfl, Or.inr ⟨rfl, fun h => h.2.1 h9, by rw [acM, acB, if_pos h23, acS, if_pos h44]⟩⟩
    · refine wp_iload_n (pc' := 13) dX4_addCell_12 rfl rfl ?_
      refine wp_bipush (pc' := 15) 115 dX4_addCell_13 rfl (by decide) ?_
      refine wp_icmp_eq (pc' := 18) 20 dX4_addCell_15 rfl (by decide) (fun h15 => ?_) (fun h15 => ?_)
      · refine wp_iload_n (pc' := 21) dX4_addCell_20 rfl rfl ?_
        refine wp_bipush (pc' := 23) 98 dX4_addCell_21 rfl (by decide) ?_
        refine wp_icmp_ne (pc' := 26) 41 dX4_addCell_23 rfl (by decide) (fun h23 => ?_) (fun h23 => ?_)
        · refine wp_iload_n (pc' := 42) dX4_addCell_41 rfl rfl ?_
          refine wp_bipush (pc' := 44) 115 dX4_addCell_42 rfl (by decide) ?_
          refine wp_icmp_ne (pc' := 47) 62 dX4_addCell_44 rfl (by decide) (fun h44 => ?_) (fun h44 => ?_)
          · refine wp_aload_n (pc' := 63) dX4_addCell_62 rfl rfl ⟨_, rfl⟩ ?_
            refine wp_dup (pc' := 64) dX4_addCell_63 rfl rfl ?_
            refine wp_get (pc' := 67) (o := 7) dX4_addCell_64 rfl flX4_25 (by decide) rfl rfl ?_
            refine wp_iconst (pc' := 68) 1 dX4_addCell_67 rfl (by decide) ?_
            refine wp_iadd (pc' := 69) dX4_addCell_68 rfl ?_
            refine wp_put (pc' := 72) (o := 7) dX4_addCell_69 rfl fpX4_25 (by decide) rfl (Nat.le_of_ble_eq_true rfl) rfl ?_
            refine wp_iconst (pc' := 73) 1 dX4_addCell_72 rfl (by decide) ?_
            refine wp_iretz dX4_addCell_73 rfl rfl ?_
            exact ⟨_, rfl, Or.inr ⟨rfl, fun h => h.2.2 h15, by rw [acM, acB, if_neg h23, acS, if_neg h44]⟩⟩
          · refine wp_aload_n (pc' := 48) dX4_addCell_47 rfl rfl ⟨_, rfl⟩ ?_
            refine wp_dup (pc' := 49) dX4_addCell_48 rfl rfl ?_
            refine wp_get (pc' := 52) (o := 7) dX4_addCell_49 rfl flX4_31 (by decide) rfl rfl ?_
            refine wp_iconst (pc' := 53) 1 dX4_addCell_52 rfl (by decide) ?_
            refine wp_aload_n (pc' := 54) dX4_addCell_53 rfl rfl ⟨_, rfl⟩ ?_
            refine wp_get (pc' := 57) (o := 7) dX4_addCell_54 rfl flX4_25 (by decide) rfl rfl ?_
            refine wp_ishl (pc' := 58) dX4_addCell_57 rfl ?_
            refine wp_ior (pc' := 59) dX4_addCell_58 rfl ?_
            refine wp_put (pc' := 62) (o := 7) dX4_addCell_59 rfl fpX4_31 (by decide) rfl (Nat.le_of_ble_eq_true rfl) rfl ?_
            refine wp_aload_n (pc' := 63) dX4_addCell_62 rfl rfl ⟨_, rfl⟩ ?_
            refine wp_dup (pc' := 64) dX4_addCell_63 rfl rfl ?_
            refine wp_get (pc' := 67) (o := 7) dX4_addCell_64 rfl flX4_25 (by decide) rfl rfl ?_
            refine wp_iconst (pc' := 68) 1 dX4_addCell_67 rfl (by decide) ?_
            refine wp_iadd (pc' := 69) dX4_addCell_68 rfl ?_
            refine wp_put (pc' := 72) (o := 7) dX4_addCell_69 rfl fpX4_25 (by decide) rfl (Nat.le_of_ble_eq_true rfl) rfl ?_
            refine wp_iconst (pc' := 73) 1 dX4_addCell_72 rfl (by decide) ?_
            refine wp_iretz dX4_addCell_73 rfl rfl ?_
            exact ⟨_, rfl, Or.inr ⟨rfl, fun h => h.2.2 h15, by rw [acM, acB, if_neg h23, acS, if_pos h44]⟩⟩
        · refine wp_aload_n (pc' := 27) dX4_addCell_26 rfl rfl ⟨_, rfl⟩ ?_
          refine wp_dup (pc' := 28) dX4_addCell_27 rfl rfl ?_
          refine wp_get (pc' := 31) (o := 7) dX4_addCell_28 rfl flX4_28 (by decide) rfl rfl ?_
          refine wp_iconst (pc' := 32) 1 dX4_addCell_31 rfl (by decide) ?_
          refine wp_aload_n (pc' := 33) dX4_addCell_32 rfl rfl ⟨_, rfl⟩ ?_
          refine wp_get (pc' := 36) (o := 7) dX4_addCell_33 rfl flX4_25 (by decide) rfl rfl ?_
          refine wp_ishl (pc' := 37) dX4_addCell_36 rfl ?_
          refine wp_ior (pc' := 38) dX4_addCell_37 rfl ?_
          refine wp_put (pc' := 41) (o := 7) dX4_addCell_38 rfl fpX4_28 (by decide) rfl (Nat.le_of_ble_eq_true rfl) rfl ?_
          refine wp_iload_n (pc' := 42) dX4_addCell_41 rfl rfl ?_
          refine wp_bipush (pc' := 44) 115 dX4_addCell_42 rfl (by decide) ?_
          refine wp_icmp_ne (pc' := 47) 62 dX4_addCell_44 rfl (by decide) (fun h44 => ?_) (fun h44 => ?_)
          · refine wp_aload_n (pc' := 63) dX4_addCell_62 rfl rfl ⟨_, rfl⟩ ?_
            refine wp_dup (pc' := 64) dX4_addCell_63 rfl rfl ?_
            refine wp_get (pc' := 67) (o := 7) dX4_addCell_64 rfl flX4_25 (by decide) rfl rfl ?_
            refine wp_iconst (pc' := 68) 1 dX4_addCell_67 rfl (by decide) ?_
            refine wp_iadd (pc' := 69) dX4_addCell_68 rfl ?_
            refine wp_put (pc' := 72) (o := 7) dX4_addCell_69 rfl fpX4_25 (by decide) rfl (Nat.le_of_ble_eq_true rfl) rfl ?_
            refine wp_iconst (pc' := 73) 1 dX4_addCell_72 rfl (by decide) ?_
            refine wp_iretz dX4_addCell_73 rfl rfl ?_
            exact ⟨_, rfl, Or.inr ⟨rfl, fun h => h.2.2 h15, by rw [acM, acB, if_pos h23, acS, if_neg h44]⟩⟩
          · refine wp_aload_n (pc' := 48) dX4_addCell_47 rfl rfl ⟨_, rfl⟩ ?_
            refine wp_dup (pc' := 49) dX4_addCell_48 rfl rfl ?_
            refine wp_get (pc' := 52) (o := 7) dX4_addCell_49 rfl flX4_31 (by decide) rfl rfl ?_
            refine wp_iconst (pc' := 53) 1 dX4_addCell_52 rfl (by decide) ?_
            refine wp_aload_n (pc' := 54) dX4_addCell_53 rfl rfl ⟨_, rfl⟩ ?_
            refine wp_get (pc' := 57) (o := 7) dX4_addCell_54 rfl flX4_25 (by decide) rfl rfl ?_
            refine wp_ishl (pc' := 58) dX4_addCell_57 rfl ?_
            refine wp_ior (pc' := 59) dX4_addCell_58 rfl ?_
            refine wp_put (pc' := 62) (o := 7) dX4_addCell_59 rfl fpX4_31 (by decide) rfl (Nat.le_of_ble_eq_true rfl) rfl ?_
            refine wp_aload_n (pc' := 63) dX4_addCell_62 rfl rfl ⟨_, rfl⟩ ?_
            refine wp_dup (pc' := 64) dX4_addCell_63 rfl rfl ?_
            refine wp_get (pc' := 67) (o := 7) dX4_addCell_64 rfl flX4_25 (by decide) rfl rfl ?_
            refine wp_iconst (pc' := 68) 1 dX4_addCell_67 rfl (by decide) ?_
            refine wp_iadd (pc' := 69) dX4_addCell_68 rfl ?_
            refine wp_put (pc' := 72) (o := 7) dX4_addCell_69 rfl fpX4_25 (by decide) rfl (Nat.le_of_ble_eq_true rfl) rfl ?_
            refine wp_iconst (pc' := 73) 1 dX4_addCell_72 rfl (by decide) ?_
            refine wp_iretz dX4_addCell_73 rfl rfl ?_
            exact ⟨_, rfl, Or.inr ⟨rfl, fun h => h.2.2 h15, by rw [acM, acB, if_pos h23, acS, if_pos h44]⟩⟩
      · refine wp_iconst (pc' := 19) 0 dX4_addCell_18 rfl (by decide) ?_
        refine wp_iretz dX4_addCell_19 rfl rfl ?_
        exact ⟨_, rfl, Or.inl ⟨rfl, ⟨h3, h9, h15⟩, rfl⟩⟩
def awM (M : Mem) (a b : Int32) : Mem := upI (putM (putM M 8 4 (M.1 7 7) a) 9 4 (M.1 7 7) b) 7 7 (M.1 7 7 + 1)
theorem putM_ne (M : Mem) (o n : Nat) (i x : Int32) {a : Nat} (h : a ≠ o) : (putM M o n i x).1 a = M.1 a := by unfold putM; split <;> simp [upI, h]
theorem sp_addWalker {g : GG} {M : Mem} {a b : Int32} : RV g mX4_addWalker [ob g 7, .int a, .int b] M (awM M a b) := by
  refine spec_of_wp (ls := [some (ob g 7), some (.int a), some (.int b)]) rfl (Nat.le_of_ble_eq_true rfl) 0 rfl ?_
  refine wp_aload_n (pc' := 1) dX4_addWalker_0 rfl rfl ⟨_, rfl⟩ ?_
  refine wp_get (pc' := 4) (o := 7) dX4_addWalker_1 rfl flX4_9 (by decide) rfl rfl ?_
  refine wp_aload_n (pc' := 5) dX4_addWalker_4 rfl rfl ⟨_, rfl⟩ ?_
  refine wp_get (pc' := 8) (o := 7) dX4_addWalker_5 rfl flX4_41 (by decide) rfl rfl ?_
  refine wp_iload_n (pc' := 9) dX4_addWalker_8 rfl rfl ?_
  refine wp_cSV (μ' := mX6_put) (pc' := 12) dX4_addWalker_9 rfl mlX4_48 cfX6_put ⟨(Nat.le_of_ble_eq_true rfl), (Nat.le_of_ble_eq_true rfl)⟩ (sp_put arr8) rfl rfl (Nat.le_of_ble_eq_true rfl) ?_
  refine wp_aload_n (pc' := 13) dX4_addWalker_12 rfl rfl ⟨_, rfl⟩ ?_
  refine wp_get (pc' := 16) (o := 7) dX4_addWalker_13 rfl flX4_15 (by decide) rfl rfl ?_
  refine wp_aload_n (pc' := 17) dX4_addWalker_16 rfl rfl ⟨_, rfl⟩ ?_
  refine wp_get (pc' := 20) (o := 7) dX4_addWalker_17 rfl flX4_41 (by decide) rfl rfl ?_
  refine wp_iload_n (pc' := 21) dX4_addWalker_20 rfl rfl ?_
  refine wp_cSV (μ' := mX6_put) (pc' := 24) dX4_addWalker_21 rfl mlX4_48 cfX6_put ⟨(Nat.le_of_ble_eq_true rfl), (Nat.le_of_ble_eq_true rfl)⟩ (sp_put arr9) rfl rfl (Nat.le_of_ble_eq_true rfl) ?_
  refine wp_aload_n (pc' := 25) dX4_addWalker_24 rfl rfl ⟨_, rfl⟩ ?_
  refine wp_dup (pc' := 26) dX4_addWalker_25 rfl rfl ?_
  refine wp_get (pc' := 29) (o := 7) dX4_addWalker_26 rfl flX4_41 (by decide) rfl rfl ?_
  refine wp_iconst (pc' := 30) 1 dX4_addWalker_29 rfl (by decide) ?_
  refine wp_iadd (pc' := 31) dX4_addWalker_30 rfl ?_
  refine wp_put (pc' := 34) (o := 7) dX4_addWalker_31 rfl fpX4_41 (by decide) rfl (Nat.le_of_ble_eq_true rfl) rfl ?_
  refine wp_vret dX4_addWalker_34 rfl ?_
  exact rv_ok (by simp [awM, putM_ne])

/-! Now -/
def bat2 : Nat → Nat → Mem → Mem
  | 0, _, M => M
  | n + 1, j, M => bat2 n (j + 1) (putM M 16 4 (nI j) 0)
def bat1 : Nat → Nat → Mem → Mem
  | 0, _, M => M
  | n + 1, j, M => bat1 n (j + 1) (putM (putM M 14 24 (nI j) (if hasF (M.1 13 1) (nI j) = 0 then 0 else M.1 4 5)) 15 24 (nI j) (-9))
def batM (M : Mem) : Mem := bat2 4 0 (bat1 24 0 (upI (upI M 13 0 (M.1 4 3)) 13 1 (M.1 4 4)))

theorem lp_bat2 {g : GG} {M0 : Mem} : ∀ (n j : Nat), j + n = 4 → ∀ (M : Mem), wp g mX0_beginAsTold 69 [some (ob g 13), some (ob g 4), some (.int (nI j))] [] M (fun q m => q = none ∧ m = bat2 n j M) := by
  intro n
  induction n with
  | zero =>
    intro j hj M
    obtain rfl : j = 4 := by omega
    refine wp_iload_n (pc' := 70) dX0_beginAsTold_69 rfl rfl ?_
    refine wp_iconst (pc' := 71) 4 dX0_beginAsTold_70 rfl (by decide) ?_
    refine wp_icmp_ge (pc' := 74) 89 dX0_beginAsTold_71 rfl (by decide) (fun _ => ?_) (fun hh => absurd hh (by decide))
    refine wp_vret dX0_beginAsTold_89 rfl ?_
    exact rv_ok rfl
  | succ n ih =>
    intro j hj M
    refine wp_iload_n (pc' := 70) dX0_beginAsTold_69 rfl rfl ?_
    refine wp_iconst (pc' := 71) 4 dX0_beginAsTold_70 rfl (by decide) ?_
    refine wp_icmp_ge (pc' := 74) 89 dX0_beginAsTold_71 rfl (by decide) (fun h71 => ?_) (fun h71 => ?_)
    · refine wp_vret dX0_beginAsTold_89 rfl ?_
      exact absurd h71 (nI_ge (a := j) (b := 4) (by omega) (by decide))
    · refine wp_aload_n (pc' := 75) dX0_beginAsTold_74 rfl rfl ⟨_, rfl⟩ ?_
      refine wp_get (pc' := 78) (o := 13) dX0_beginAsTold_75 rfl flX0_18 (by decide) rfl rfl ?_
      refine wp_iload_n (pc' := 79) dX0_beginAsTold_78 rfl rfl ?_
      refine wp_iconst (pc' := 80) 0 dX0_beginAsTold_79 rfl (by decide) ?_
      refine wp_cSV (μ' := mX6_put) (pc' := 83) dX0_beginAsTold_80 rfl mlX0_39 cfX6_put ⟨(Nat.le_of_ble_eq_true rfl), (Nat.le_of_ble_eq_true rfl)⟩ (sp_put arr16) rfl rfl (Nat.le_of_ble_eq_true rfl) ?_
      refine wp_inc2 (pc' := 86) (nI (j + 1)) dX0_beginAsTold_83 rfl (by decide) rfl (nI_1 j) ?_
      refine wp_goto 69 dX0_beginAsTold_86 (by decide) ?_
      exact ih (j + 1) (by omega) _
theorem lp_bat1 {g : GG} : ∀ (n j : Nat), j + n = 24 → ∀ (M : Mem), wp g mX0_beginAsTold 18 [some (ob g 13), some (ob g 4), some (.int (nI j))] [] M (fun q m => q = none ∧ m = bat2 4 0 (bat1 n j M)) := by
  intro n
  induction n with
  | zero =>
    intro j hj M
    obtain rfl : j = 24 := by omega
    refine wp_iload_n (pc' := 19) dX0_beginAsTold_18 rfl rfl ?_
    refine wp_bipush (pc' := 21) 24 dX0_beginAsTold_19 rfl (by decide) ?_
    refine wp_icmp_ge (pc' := 24) 67 dX0_beginAsTold_21 rfl (by decide) (fun _ => ?_) (fun hh => absurd hh (by decide))
    refine wp_iconst (pc' := 68) 0 dX0_beginAsTold_67 rfl (by decide) ?_
    refine wp_ist2 (pc' := 69) dX0_beginAsTold_68 rfl (by decide) rfl ?_
    exact lp_bat2 (M0 := M) 4 0 rfl _
  | succ n ih =>
    intro j hj M
    refine wp_iload_n (pc' := 19) dX0_beginAsTold_18 rfl rfl ?_
    refine wp_bipush (pc' := 21) 24 dX0_beginAsTold_19 rfl (by decide) ?_
    refine wp_icmp_ge (pc' := 24) 67 dX0_beginAsTold_21 rfl (by decide) (fun h21 => ?_) (fun h21 => ?_)
    · exact absurd h21 (nI_ge (a := j) (b := 24) (by omega) (by decide))
    · refine wp_aload_n (pc' := 25) dX0_beginAsTold_24 rfl rfl ⟨_, rfl⟩ ?_
      refine wp_get (pc' := 28) (o := 13) dX0_beginAsTold_25 rfl flX0_9 (by decide) rfl rfl ?_
      refine wp_iload_n (pc' := 29) dX0_beginAsTold_28 rfl rfl ?_
      refine wp_aload_n (pc' := 30) dX0_beginAsTold_29 rfl rfl ⟨_, rfl⟩ ?_
      refine wp_get (pc' := 33) (o := 13) dX0_beginAsTold_30 rfl flX0_31 (by decide) rfl rfl ?_
      refine wp_iload_n (pc' := 34) dX0_beginAsTold_33 rfl rfl ?_
      refine wp_cSI (μ' := mX6_has) (pc' := 37) dX0_beginAsTold_34 rfl mlX0_32 cfX6_has ⟨(Nat.le_of_ble_eq_true rfl), (Nat.le_of_ble_eq_true rfl)⟩ (sp_has) rfl rfl (Nat.le_of_ble_eq_true rfl) ?_
      refine wp_if_eq (pc' := 40) 47 dX0_beginAsTold_37 rfl (by decide) (fun h37 => ?_) (fun h37 => ?_)
      · refine wp_iconst (pc' := 48) 0 dX0_beginAsTold_47 rfl (by decide) ?_
        refine wp_cSV (μ' := mX6_put) (pc' := 51) dX0_beginAsTold_48 rfl mlX0_39 cfX6_put ⟨(Nat.le_of_ble_eq_true rfl), (Nat.le_of_ble_eq_true rfl)⟩ (sp_put arr14) rfl rfl (Nat.le_of_ble_eq_true rfl) ?_
        refine wp_aload_n (pc' := 52) dX0_beginAsTold_51 rfl rfl ⟨_, rfl⟩ ?_
        refine wp_get (pc' := 55) (o := 13) dX0_beginAsTold_52 rfl flX0_15 (by decide) rfl rfl ?_
        refine wp_iload_n (pc' := 56) dX0_beginAsTold_55 rfl rfl ?_
        refine wp_bipush (pc' := 58) (-9) dX0_beginAsTold_56 rfl (by decide) ?_
        refine wp_cSV (μ' := mX6_put) (pc' := 61) dX0_beginAsTold_58 rfl mlX0_39 cfX6_put ⟨(Nat.le_of_ble_eq_true rfl), (Nat.le_of_ble_eq_true rfl)⟩ (sp_put arr15) rfl rfl (Nat.le_of_ble_eq_true rfl) ?_
        refine wp_inc2 (pc' := 64) (nI (j + 1)) dX0_beginAsTold_61 rfl (by decide) rfl (nI_1 j) ?_
        refine wp_goto 18 dX0_beginAsTold_64 (by decide) ?_
        rw [bat1, if_pos h37]
        exact ih (j + 1) (by omega) _
      · refine wp_aload_n (pc' := 41) dX0_beginAsTold_40 rfl rfl ⟨_, rfl⟩ ?_
        refine wp_get (pc' := 44) (o := 4) dX0_beginAsTold_41 rfl flX0_36 (by decide) rfl rfl ?_
        refine wp_goto 48 dX0_beginAsTold_44 (by decide) ?_
        refine wp_cSV (μ' := mX6_put) (pc' := 51) dX0_beginAsTold_48 rfl mlX0_39 cfX6_put ⟨(Nat.le_of_ble_eq_true rfl), (Nat.le_of_ble_eq_true rfl)⟩ (sp_put arr14) rfl rfl (Nat.le_of_ble_eq_true rfl) ?_
        refine wp_aload_n (pc' := 52) dX0_beginAsTold_51 rfl rfl ⟨_, rfl⟩ ?_
        refine wp_get (pc' := 55) (o := 13) dX0_beginAsTold_52 rfl flX0_15 (by decide) rfl rfl ?_
        refine wp_iload_n (pc' := 56) dX0_beginAsTold_55 rfl rfl ?_
        refine wp_bipush (pc' := 58) (-9) dX0_beginAsTold_56 rfl (by decide) ?_
        refine wp_cSV (μ' := mX6_put) (pc' := 61) dX0_beginAsTold_58 rfl mlX0_39 cfX6_put ⟨(Nat.le_of_ble_eq_true rfl), (Nat.le_of_ble_eq_true rfl)⟩ (sp_put arr15) rfl rfl (Nat.le_of_ble_eq_true rfl) ?_
        refine wp_inc2 (pc' := 64) (nI (j + 1)) dX0_beginAsTold_61 rfl (by decide) rfl (nI_1 j) ?_
        refine wp_goto 18 dX0_beginAsTold_64 (by decide) ?_
        rw [bat1, if_neg h37]
        exact ih (j + 1) (by omega) _
theorem sp_beginAsTold {g : GG} {M : Mem} : RV g mX0_beginAsTold [ob g 13, ob g 4] M (batM M) := by
  refine spec_of_wp (ls := [some (ob g 13), some (ob g 4), none]) rfl (Nat.le_of_ble_eq_true rfl) 1 rfl ?_
  refine wp_aload_n (pc' := 1) dX0_beginAsTold_0 rfl rfl ⟨_, rfl⟩ ?_
  refine wp_aload_n (pc' := 2) dX0_beginAsTold_1 rfl rfl ⟨_, rfl⟩ ?_
  refine wp_get (pc' := 5) (o := 4) dX0_beginAsTold_2 rfl flX0_21 (by decide) rfl rfl ?_
  refine wp_put (pc' := 8) (o := 13) dX0_beginAsTold_5 rfl fpX0_27 (by decide) rfl (Nat.le_of_ble_eq_true rfl) rfl ?_
  refine wp_aload_n (pc' := 9) dX0_beginAsTold_8 rfl rfl ⟨_, rfl⟩ ?_
  refine wp_aload_n (pc' := 10) dX0_beginAsTold_9 rfl rfl ⟨_, rfl⟩ ?_
  refine wp_get (pc' := 13) (o := 4) dX0_beginAsTold_10 rfl flX0_28 (by decide) rfl rfl ?_
  refine wp_put (pc' := 16) (o := 13) dX0_beginAsTold_13 rfl fpX0_31 (by decide) rfl (Nat.le_of_ble_eq_true rfl) rfl ?_
  refine wp_iconst (pc' := 17) 0 dX0_beginAsTold_16 rfl (by decide) ?_
  refine wp_ist2 (pc' := 18) dX0_beginAsTold_17 rfl (by decide) rfl ?_
  exact lp_bat1 24 0 rfl _
def ncp17_13 (M : Mem) : Mem := setO (setO (setO (upI (upI M 17 0 (M.1 13 0)) 17 1 (M.1 13 1)) 18 (cpyF 24 (M.1 14) (M.1 18))) 19 (cpyF 24 (M.1 15) (M.1 19))) 20 (cpyF 4 (M.1 16) (M.1 20))
theorem sp_ncopy17_13 {g : GG} {M : Mem} : RV g mX0_copy [ob g 17, ob g 13] M (ncp17_13 M) := by
  refine spec_of_wp (ls := [some (ob g 17), some (ob g 13)]) rfl (Nat.le_of_ble_eq_true rfl) 0 rfl ?_
  refine wp_aload_n (pc' := 1) dX0_copy_0 rfl rfl ⟨_, rfl⟩ ?_
  refine wp_aload_n (pc' := 2) dX0_copy_1 rfl rfl ⟨_, rfl⟩ ?_
  refine wp_get (pc' := 5) (o := 13) dX0_copy_2 rfl flX0_27 (by decide) rfl rfl ?_
  refine wp_put (pc' := 8) (o := 17) dX0_copy_5 rfl fpX0_27 (by decide) rfl (Nat.le_of_ble_eq_true rfl) rfl ?_
  refine wp_aload_n (pc' := 9) dX0_copy_8 rfl rfl ⟨_, rfl⟩ ?_
  refine wp_aload_n (pc' := 10) dX0_copy_9 rfl rfl ⟨_, rfl⟩ ?_
  refine wp_get (pc' := 13) (o := 13) dX0_copy_10 rfl flX0_31 (by decide) rfl rfl ?_
  refine wp_put (pc' := 16) (o := 17) dX0_copy_13 rfl fpX0_31 (by decide) rfl (Nat.le_of_ble_eq_true rfl) rfl ?_
  refine wp_aload_n (pc' := 17) dX0_copy_16 rfl rfl ⟨_, rfl⟩ ?_
  refine wp_get (pc' := 20) (o := 13) dX0_copy_17 rfl flX0_9 (by decide) rfl rfl ?_
  refine wp_aload_n (pc' := 21) dX0_copy_20 rfl rfl ⟨_, rfl⟩ ?_
  refine wp_get (pc' := 24) (o := 17) dX0_copy_21 rfl flX0_9 (by decide) rfl rfl ?_
  refine wp_cSV (μ' := mX6_copyRow) (pc' := 27) dX0_copy_24 rfl mlX0_43 cfX6_copyRow ⟨(Nat.le_of_ble_eq_true rfl), (Nat.le_of_ble_eq_true rfl)⟩ (sp_copyRow arr14 arr18) rfl rfl (Nat.le_of_ble_eq_true rfl) ?_
  refine wp_aload_n (pc' := 28) dX0_copy_27 rfl rfl ⟨_, rfl⟩ ?_
  refine wp_get (pc' := 31) (o := 13) dX0_copy_28 rfl flX0_15 (by decide) rfl rfl ?_
  refine wp_aload_n (pc' := 32) dX0_copy_31 rfl rfl ⟨_, rfl⟩ ?_
  refine wp_get (pc' := 35) (o := 17) dX0_copy_32 rfl flX0_15 (by decide) rfl rfl ?_
  refine wp_cSV (μ' := mX6_copyRow) (pc' := 38) dX0_copy_35 rfl mlX0_43 cfX6_copyRow ⟨(Nat.le_of_ble_eq_true rfl), (Nat.le_of_ble_eq_true rfl)⟩ (sp_copyRow arr15 arr19) rfl rfl (Nat.le_of_ble_eq_true rfl) ?_
  refine wp_aload_n (pc' := 39) dX0_copy_38 rfl rfl ⟨_, rfl⟩ ?_
  refine wp_get (pc' := 42) (o := 13) dX0_copy_39 rfl flX0_18 (by decide) rfl rfl ?_
  refine wp_aload_n (pc' := 43) dX0_copy_42 rfl rfl ⟨_, rfl⟩ ?_
  refine wp_get (pc' := 46) (o := 17) dX0_copy_43 rfl flX0_18 (by decide) rfl rfl ?_
  refine wp_cSV (μ' := mX6_copyRow) (pc' := 49) dX0_copy_46 rfl mlX0_43 cfX6_copyRow ⟨(Nat.le_of_ble_eq_true rfl), (Nat.le_of_ble_eq_true rfl)⟩ (sp_copyRow arr16 arr20) rfl rfl (Nat.le_of_ble_eq_true rfl) ?_
  refine wp_vret dX0_copy_49 rfl ?_
  exact rv_ok rfl
def ncp21_13 (M : Mem) : Mem := setO (setO (setO (upI (upI M 21 0 (M.1 13 0)) 21 1 (M.1 13 1)) 22 (cpyF 24 (M.1 14) (M.1 22))) 23 (cpyF 24 (M.1 15) (M.1 23))) 24 (cpyF 4 (M.1 16) (M.1 24))
theorem sp_ncopy21_13 {g : GG} {M : Mem} : RV g mX0_copy [ob g 21, ob g 13] M (ncp21_13 M) := by
  refine spec_of_wp (ls := [some (ob g 21), some (ob g 13)]) rfl (Nat.le_of_ble_eq_true rfl) 0 rfl ?_
  refine wp_aload_n (pc' := 1) dX0_copy_0 rfl rfl ⟨_, rfl⟩ ?_
  refine wp_aload_n (pc' := 2) dX0_copy_1 rfl rfl ⟨_, rfl⟩ ?_
  refine wp_get (pc' := 5) (o := 13) dX0_copy_2 rfl flX0_27 (by decide) rfl rfl ?_
  refine wp_put (pc' := 8) (o := 21) dX0_copy_5 rfl fpX0_27 (by decide) rfl (Nat.le_of_ble_eq_true rfl) rfl ?_
  refine wp_aload_n (pc' := 9) dX0_copy_8 rfl rfl ⟨_, rfl⟩ ?_
  refine wp_aload_n (pc' := 10) dX0_copy_9 rfl rfl ⟨_, rfl⟩ ?_
  refine wp_get (pc' := 13) (o := 13) dX0_copy_10 rfl flX0_31 (by decide) rfl rfl ?_
  refine wp_put (pc' := 16) (o := 21) dX0_copy_13 rfl fpX0_31 (by decide) rfl (Nat.le_of_ble_eq_true rfl) rfl ?_
  refine wp_aload_n (pc' := 17) dX0_copy_16 rfl rfl ⟨_, rfl⟩ ?_
  refine wp_get (pc' := 20) (o := 13) dX0_copy_17 rfl flX0_9 (by decide) rfl rfl ?_
  refine wp_aload_n (pc' := 21) dX0_copy_20 rfl rfl ⟨_, rfl⟩ ?_
  refine wp_get (pc' := 24) (o := 21) dX0_copy_21 rfl flX0_9 (by decide) rfl rfl ?_
  refine wp_cSV (μ' := mX6_copyRow) (pc' := 27) dX0_copy_24 rfl mlX0_43 cfX6_copyRow ⟨(Nat.le_of_ble_eq_true rfl), (Nat.le_of_ble_eq_true rfl)⟩ (sp_copyRow arr14 arr22) rfl rfl (Nat.le_of_ble_eq_true rfl) ?_
  refine wp_aload_n (pc' := 28) dX0_copy_27 rfl rfl ⟨_, rfl⟩ ?_
  refine wp_get (pc' := 31) (o := 13) dX0_copy_28 rfl flX0_15 (by decide) rfl rfl ?_
  refine wp_aload_n (pc' := 32) dX0_copy_31 rfl rfl ⟨_, rfl⟩ ?_
  refine wp_get (pc' := 35) (o := 21) dX0_copy_32 rfl flX0_15 (by decide) rfl rfl ?_
  refine wp_cSV (μ' := mX6_copyRow) (pc' := 38) dX0_copy_35 rfl mlX0_43 cfX6_copyRow ⟨(Nat.le_of_ble_eq_true rfl), (Nat.le_of_ble_eq_true rfl)⟩ (sp_copyRow arr15 arr23) rfl rfl (Nat.le_of_ble_eq_true rfl) ?_
  refine wp_aload_n (pc' := 39) dX0_copy_38 rfl rfl ⟨_, rfl⟩ ?_
  refine wp_get (pc' := 42) (o := 13) dX0_copy_39 rfl flX0_18 (by decide) rfl rfl ?_
  refine wp_aload_n (pc' := 43) dX0_copy_42 rfl rfl ⟨_, rfl⟩ ?_
  refine wp_get (pc' := 46) (o := 21) dX0_copy_43 rfl flX0_18 (by decide) rfl rfl ?_
  refine wp_cSV (μ' := mX6_copyRow) (pc' := 49) dX0_copy_46 rfl mlX0_43 cfX6_copyRow ⟨(Nat.le_of_ble_eq_true rfl), (Nat.le_of_ble_eq_true rfl)⟩ (sp_copyRow arr16 arr24) rfl rfl (Nat.le_of_ble_eq_true rfl) ?_
  refine wp_vret dX0_copy_49 rfl ?_
  exact rv_ok rfl
def ncp13_17 (M : Mem) : Mem := setO (setO (setO (upI (upI M 13 0 (M.1 17 0)) 13 1 (M.1 17 1)) 14 (cpyF 24 (M.1 18) (M.1 14))) 15 (cpyF 24 (M.1 19) (M.1 15))) 16 (cpyF 4 (M.1 20) (M.1 16))
theorem sp_ncopy13_17 {g : GG} {M : Mem} : RV g mX0_copy [ob g 13, ob g 17] M (ncp13_17 M) := by
  refine spec_of_wp (ls := [some (ob g 13), some (ob g 17)]) rfl (Nat.le_of_ble_eq_true rfl) 0 rfl ?_
  refine wp_aload_n (pc' := 1) dX0_copy_0 rfl rfl ⟨_, rfl⟩ ?_
  refine wp_aload_n (pc' := 2) dX0_copy_1 rfl rfl ⟨_, rfl⟩ ?_
  refine wp_get (pc' := 5) (o := 17) dX0_copy_2 rfl flX0_27 (by decide) rfl rfl ?_
  refine wp_put (pc' := 8) (o := 13) dX0_copy_5 rfl fpX0_27 (by decide) rfl (Nat.le_of_ble_eq_true rfl) rfl ?_
  refine wp_aload_n (pc' := 9) dX0_copy_8 rfl rfl ⟨_, rfl⟩ ?_
  refine wp_aload_n (pc' := 10) dX0_copy_9 rfl rfl ⟨_, rfl⟩ ?_
  refine wp_get (pc' := 13) (o := 17) dX0_copy_10 rfl flX0_31 (by decide) rfl rfl ?_
  refine wp_put (pc' := 16) (o := 13) dX0_copy_13 rfl fpX0_31 (by decide) rfl (Nat.le_of_ble_eq_true rfl) rfl ?_
  refine wp_aload_n (pc' := 17) dX0_copy_16 rfl rfl ⟨_, rfl⟩ ?_
  refine wp_get (pc' := 20) (o := 17) dX0_copy_17 rfl flX0_9 (by decide) rfl rfl ?_
  refine wp_aload_n (pc' := 21) dX0_copy_20 rfl rfl ⟨_, rfl⟩ ?_
  refine wp_get (pc' := 24) (o := 13) dX0_copy_21 rfl flX0_9 (by decide) rfl rfl ?_
  refine wp_cSV (μ' := mX6_copyRow) (pc' := 27) dX0_copy_24 rfl mlX0_43 cfX6_copyRow ⟨(Nat.le_of_ble_eq_true rfl), (Nat.le_of_ble_eq_true rfl)⟩ (sp_copyRow arr18 arr14) rfl rfl (Nat.le_of_ble_eq_true rfl) ?_
  refine wp_aload_n (pc' := 28) dX0_copy_27 rfl rfl ⟨_, rfl⟩ ?_
  refine wp_get (pc' := 31) (o := 17) dX0_copy_28 rfl flX0_15 (by decide) rfl rfl ?_
  refine wp_aload_n (pc' := 32) dX0_copy_31 rfl rfl ⟨_, rfl⟩ ?_
  refine wp_get (pc' := 35) (o := 13) dX0_copy_32 rfl flX0_15 (by decide) rfl rfl ?_
  refine wp_cSV (μ' := mX6_copyRow) (pc' := 38) dX0_copy_35 rfl mlX0_43 cfX6_copyRow ⟨(Nat.le_of_ble_eq_true rfl), (Nat.le_of_ble_eq_true rfl)⟩ (sp_copyRow arr19 arr15) rfl rfl (Nat.le_of_ble_eq_true rfl) ?_
  refine wp_aload_n (pc' := 39) dX0_copy_38 rfl rfl ⟨_, rfl⟩ ?_
  refine wp_get (pc' := 42) (o := 17) dX0_copy_39 rfl flX0_18 (by decide) rfl rfl ?_
  refine wp_aload_n (pc' := 43) dX0_copy_42 rfl rfl ⟨_, rfl⟩ ?_
  refine wp_get (pc' := 46) (o := 13) dX0_copy_43 rfl flX0_18 (by decide) rfl rfl ?_
  refine wp_cSV (μ' := mX6_copyRow) (pc' := 49) dX0_copy_46 rfl mlX0_43 cfX6_copyRow ⟨(Nat.le_of_ble_eq_true rfl), (Nat.le_of_ble_eq_true rfl)⟩ (sp_copyRow arr20 arr16) rfl rfl (Nat.le_of_ble_eq_true rfl) ?_
  refine wp_vret dX0_copy_49 rfl ?_
  exact rv_ok rfl
def ncp13_21 (M : Mem) : Mem := setO (setO (setO (upI (upI M 13 0 (M.1 21 0)) 13 1 (M.1 21 1)) 14 (cpyF 24 (M.1 22) (M.1 14))) 15 (cpyF 24 (M.1 23) (M.1 15))) 16 (cpyF 4 (M.1 24) (M.1 16))
theorem sp_ncopy13_21 {g : GG} {M : Mem} : RV g mX0_copy [ob g 13, ob g 21] M (ncp13_21 M) := by
  refine spec_of_wp (ls := [some (ob g 13), some (ob g 21)]) rfl (Nat.le_of_ble_eq_true rfl) 0 rfl ?_
  refine wp_aload_n (pc' := 1) dX0_copy_0 rfl rfl ⟨_, rfl⟩ ?_
  refine wp_aload_n (pc' := 2) dX0_copy_1 rfl rfl ⟨_, rfl⟩ ?_
  refine wp_get (pc' := 5) (o := 21) dX0_copy_2 rfl flX0_27 (by decide) rfl rfl ?_
  refine wp_put (pc' := 8) (o := 13) dX0_copy_5 rfl fpX0_27 (by decide) rfl (Nat.le_of_ble_eq_true rfl) rfl ?_
  refine wp_aload_n (pc' := 9) dX0_copy_8 rfl rfl ⟨_, rfl⟩ ?_
  refine wp_aload_n (pc' := 10) dX0_copy_9 rfl rfl ⟨_, rfl⟩ ?_
  refine wp_get (pc' := 13) (o := 21) dX0_copy_10 rfl flX0_31 (by decide) rfl rfl ?_
  refine wp_put (pc' := 16) (o := 13) dX0_copy_13 rfl fpX0_31 (by decide) rfl (Nat.le_of_ble_eq_true rfl) rfl ?_
  refine wp_aload_n (pc' := 17) dX0_copy_16 rfl rfl ⟨_, rfl⟩ ?_
  refine wp_get (pc' := 20) (o := 21) dX0_copy_17 rfl flX0_9 (by decide) rfl rfl ?_
  refine wp_aload_n (pc' := 21) dX0_copy_20 rfl rfl ⟨_, rfl⟩ ?_
  refine wp_get (pc' := 24) (o := 13) dX0_copy_21 rfl flX0_9 (by decide) rfl rfl ?_
  refine wp_cSV (μ' := mX6_copyRow) (pc' := 27) dX0_copy_24 rfl mlX0_43 cfX6_copyRow ⟨(Nat.le_of_ble_eq_true rfl), (Nat.le_of_ble_eq_true rfl)⟩ (sp_copyRow arr22 arr14) rfl rfl (Nat.le_of_ble_eq_true rfl) ?_
  refine wp_aload_n (pc' := 28) dX0_copy_27 rfl rfl ⟨_, rfl⟩ ?_
  refine wp_get (pc' := 31) (o := 21) dX0_copy_28 rfl flX0_15 (by decide) rfl rfl ?_
  refine wp_aload_n (pc' := 32) dX0_copy_31 rfl rfl ⟨_, rfl⟩ ?_
  refine wp_get (pc' := 35) (o := 13) dX0_copy_32 rfl flX0_15 (by decide) rfl rfl ?_
  refine wp_cSV (μ' := mX6_copyRow) (pc' := 38) dX0_copy_35 rfl mlX0_43 cfX6_copyRow ⟨(Nat.le_of_ble_eq_true rfl), (Nat.le_of_ble_eq_true rfl)⟩ (sp_copyRow arr23 arr15) rfl rfl (Nat.le_of_ble_eq_true rfl) ?_
  refine wp_aload_n (pc' := 39) dX0_copy_38 rfl rfl ⟨_, rfl⟩ ?_
  refine wp_get (pc' := 42) (o := 21) dX0_copy_39 rfl flX0_18 (by decide) rfl rfl ?_
  refine wp_aload_n (pc' := 43) dX0_copy_42 rfl rfl ⟨_, rfl⟩ ?_
  refine wp_get (pc' := 46) (o := 13) dX0_copy_43 rfl flX0_18 (by decide) rfl rfl ?_
  refine wp_cSV (μ' := mX6_copyRow) (pc' := 49) dX0_copy_46 rfl mlX0_43 cfX6_copyRow ⟨(Nat.le_of_ble_eq_true rfl), (Nat.le_of_ble_eq_true rfl)⟩ (sp_copyRow arr24 arr16) rfl rfl (Nat.le_of_ble_eq_true rfl) ?_
  refine wp_vret dX0_copy_49 rfl ?_
  exact rv_ok rfl
def groundF (M : Mem) (c : Int32) : Int32 := if hasF (M.1 13 1) c = 0 then (if hasF (M.1 13 0) c = 0 then 0 else 1) else 2
theorem sp_groundOf {g : GG} {M : Mem} {c : Int32} : RI g mX0_groundOf [ob g 13, .int c] M (groundF M c) M := by
  refine spec_of_wp (ls := [some (ob g 13), some (.int c)]) rfl (Nat.le_of_ble_eq_true rfl) 0 rfl ?_
  refine wp_aload_n (pc' := 1) dX0_groundOf_0 rfl rfl ⟨_, rfl⟩ ?_
  refine wp_get (pc' := 4) (o := 13) dX0_groundOf_1 rfl flX0_31 (by decide) rfl rfl ?_
  refine wp_iload_n (pc' := 5) dX0_groundOf_4 rfl rfl ?_
  refine wp_cSI (μ' := mX6_has) (pc' := 8) dX0_groundOf_5 rfl mlX0_32 cfX6_has ⟨(Nat.le_of_ble_eq_true rfl), (Nat.le_of_ble_eq_true rfl)⟩ (sp_has) rfl rfl (Nat.le_of_ble_eq_true rfl) ?_
  refine wp_if_eq (pc' := 11) 13 dX0_groundOf_8 rfl (by decide) (fun h8 => ?_) (fun h8 => ?_)
  · refine wp_aload_n (pc' := 14) dX0_groundOf_13 rfl rfl ⟨_, rfl⟩ ?_
    refine wp_get (pc' := 17) (o := 13) dX0_groundOf_14 rfl flX0_27 (by decide) rfl rfl ?_
    refine wp_iload_n (pc' := 18) dX0_groundOf_17 rfl rfl ?_
    refine wp_cSI (μ' := mX6_has) (pc' := 21) dX0_groundOf_18 rfl mlX0_32 cfX6_has ⟨(Nat.le_of_ble_eq_true rfl), (Nat.le_of_ble_eq_true rfl)⟩ (sp_has) rfl rfl (Nat.le_of_ble_eq_true rfl) ?_
    refine wp_if_eq (pc' := 24) 28 dX0_groundOf_21 rfl (by decide) (fun h21 => ?_) (fun h21 => ?_)
    · refine wp_iconst (pc' := 29) 0 dX0_groundOf_28 rfl (by decide) ?_
      refine wp_ireti dX0_groundOf_29 rfl ?_
      exact ri_ok (by rw [groundF, if_pos h8, if_pos h21]) rfl
    · refine wp_iconst (pc' := 25) 1 dX0_groundOf_24 rfl (by decide) ?_
      refine wp_goto 29 dX0_groundOf_25 (by decide) ?_
      refine wp_ireti dX0_groundOf_29 rfl ?_
      exact ri_ok (by rw [groundF, if_pos h8, if_neg h21]) rfl
  · refine wp_iconst (pc' := 12) 2 dX0_groundOf_11 rfl (by decide) ?_
    refine wp_ireti dX0_groundOf_12 rfl ?_
    exact ri_ok (by rw [groundF, if_neg h8]) rfl
def lbF (M : Mem) (k : Int32) : Nat → Nat → Int32 → Int32
  | 0, _, t => t
  | n + 1, j, t => if hasF (M.1 13 1) (nI j) = 0 then lbF M k n (j + 1) t else if atF 24 (M.1 15) (nI j) = k then lbF M k n (j + 1) (t + 1) else lbF M k n (j + 1) t
theorem lp_laidBy {g : GG} {M : Mem} {k : Int32} : ∀ (n j : Nat), j + n = 24 → ∀ (t : Int32), wp g mX0_laidBy 4 [some (ob g 13), some (.int k), some (.int t), some (.int (nI j))] [] M (fun q m => q = some (.int (lbF M k n j t)) ∧ m = M) := by
  intro n
  induction n with
  | zero =>
    intro j hj t
    obtain rfl : j = 24 := by omega
    refine wp_iload_n (pc' := 5) dX0_laidBy_4 rfl rfl ?_
    refine wp_bipush (pc' := 7) 24 dX0_laidBy_5 rfl (by decide) ?_
    refine wp_icmp_ge (pc' := 10) 42 dX0_laidBy_7 rfl (by decide) (fun _ => ?_) (fun hh => absurd hh (by decide))
    refine wp_iload_n (pc' := 43) dX0_laidBy_42 rfl rfl ?_
    refine wp_ireti dX0_laidBy_43 rfl ?_
    exact ri_ok rfl rfl
  | succ n ih =>
    intro j hj t
    refine wp_iload_n (pc' := 5) dX0_laidBy_4 rfl rfl ?_
    refine wp_bipush (pc' := 7) 24 dX0_laidBy_5 rfl (by decide) ?_
    refine wp_icmp_ge (pc' := 10) 42 dX0_laidBy_7 rfl (by decide) (fun h7 => ?_) (fun h7 => ?_)
    · refine wp_iload_n (pc' := 43) dX0_laidBy_42 rfl rfl ?_
      refine wp_ireti dX0_laidBy_43 rfl ?_
      exact absurd h7 (nI_ge (a := j) (b := 24) (by omega) (by decide))
    · refine wp_aload_n (pc' := 11) dX0_laidBy_10 rfl rfl ⟨_, rfl⟩ ?_
      refine wp_get (pc' := 14) (o := 13) dX0_laidBy_11 rfl flX0_31 (by decide) rfl rfl ?_
      refine wp_iload_n (pc' := 15) dX0_laidBy_14 rfl rfl ?_
      refine wp_cSI (μ' := mX6_has) (pc' := 18) dX0_laidBy_15 rfl mlX0_32 cfX6_has ⟨(Nat.le_of_ble_eq_true rfl), (Nat.le_of_ble_eq_true rfl)⟩ (sp_has) rfl rfl (Nat.le_of_ble_eq_true rfl) ?_
      refine wp_if_eq (pc' := 21) 36 dX0_laidBy_18 rfl (by decide) (fun h18 => ?_) (fun h18 => ?_)
      · refine wp_inc3 (pc' := 39) (nI (j + 1)) dX0_laidBy_36 rfl (by decide) rfl (nI_1 j) ?_
        refine wp_goto 4 dX0_laidBy_39 (by decide) ?_
        rw [lbF, if_pos h18]
        exact ih (j + 1) (by omega) _
      · refine wp_aload_n (pc' := 22) dX0_laidBy_21 rfl rfl ⟨_, rfl⟩ ?_
        refine wp_get (pc' := 25) (o := 13) dX0_laidBy_22 rfl flX0_15 (by decide) rfl rfl ?_
        refine wp_iload_n (pc' := 26) dX0_laidBy_25 rfl rfl ?_
        refine wp_cSI (μ' := mX6_at) (pc' := 29) dX0_laidBy_26 rfl mlX0_47 cfX6_at ⟨(Nat.le_of_ble_eq_true rfl), (Nat.le_of_ble_eq_true rfl)⟩ (sp_at arr15) rfl rfl (Nat.le_of_ble_eq_true rfl) ?_
        refine wp_iload_n (pc' := 30) dX0_laidBy_29 rfl rfl ?_
        refine wp_icmp_ne (pc' := 33) 36 dX0_laidBy_30 rfl (by decide) (fun h30 => ?_) (fun h30 => ?_)
        · refine wp_inc3 (pc' := 39) (nI (j + 1)) dX0_laidBy_36 rfl (by decide) rfl (nI_1 j) ?_
          refine wp_goto 4 dX0_laidBy_39 (by decide) ?_
          rw [lbF, if_neg h18, if_neg h30]
          exact ih (j + 1) (by omega) _
        · refine wp_inc2 (pc' := 36) (t + 1) dX0_laidBy_33 rfl (by decide) rfl rfl ?_
          refine wp_inc3 (pc' := 39) (nI (j + 1)) dX0_laidBy_36 rfl (by decide) rfl (nI_1 j) ?_
          refine wp_goto 4 dX0_laidBy_39 (by decide) ?_
          rw [lbF, if_neg h18, if_pos h30]
          exact ih (j + 1) (by omega) _
theorem sp_laidBy {g : GG} {M : Mem} {k : Int32} : RI g mX0_laidBy [ob g 13, .int k] M (lbF M k 24 0 0) M := by
  refine spec_of_wp (ls := [some (ob g 13), some (.int k), none, none]) rfl (Nat.le_of_ble_eq_true rfl) 2 rfl ?_
  refine wp_iconst (pc' := 1) 0 dX0_laidBy_0 rfl (by decide) ?_
  refine wp_ist2 (pc' := 2) dX0_laidBy_1 rfl (by decide) rfl ?_
  refine wp_iconst (pc' := 3) 0 dX0_laidBy_2 rfl (by decide) ?_
  refine wp_ist3 (pc' := 4) dX0_laidBy_3 rfl (by decide) rfl ?_
  exact lp_laidBy 24 0 rfl _
def pbF (M : Mem) : Nat → Nat → Int32 → Int32
  | 0, _, t => t
  | n + 1, j, t => pbF M n (j + 1) (t + atF 4 (M.1 16) (nI j))
theorem lp_passedByAll {g : GG} {M : Mem} : ∀ (n j : Nat), j + n = 4 → ∀ (t : Int32), wp g mX0_passedByAll 4 [some (ob g 13), some (.int t), some (.int (nI j))] [] M (fun q m => q = some (.int (pbF M n j t)) ∧ m = M) := by
  intro n
  induction n with
  | zero =>
    intro j hj t
    obtain rfl : j = 4 := by omega
    refine wp_iload_n (pc' := 5) dX0_passedByAll_4 rfl rfl ?_
    refine wp_iconst (pc' := 6) 4 dX0_passedByAll_5 rfl (by decide) ?_
    refine wp_icmp_ge (pc' := 9) 26 dX0_passedByAll_6 rfl (by decide) (fun _ => ?_) (fun hh => absurd hh (by decide))
    refine wp_iload_n (pc' := 27) dX0_passedByAll_26 rfl rfl ?_
    refine wp_ireti dX0_passedByAll_27 rfl ?_
    exact ri_ok rfl rfl
  | succ n ih =>
    intro j hj t
    refine wp_iload_n (pc' := 5) dX0_passedByAll_4 rfl rfl ?_
    refine wp_iconst (pc' := 6) 4 dX0_passedByAll_5 rfl (by decide) ?_
    refine wp_icmp_ge (pc' := 9) 26 dX0_passedByAll_6 rfl (by decide) (fun h6 => ?_) (fun h6 => ?_)
    · refine wp_iload_n (pc' := 27) dX0_passedByAll_26 rfl rfl ?_
      refine wp_ireti dX0_passedByAll_27 rfl ?_
      exact absurd h6 (nI_ge (a := j) (b := 4) (by omega) (by decide))
    · refine wp_iload_n (pc' := 10) dX0_passedByAll_9 rfl rfl ?_
      refine wp_aload_n (pc' := 11) dX0_passedByAll_10 rfl rfl ⟨_, rfl⟩ ?_
      refine wp_get (pc' := 14) (o := 13) dX0_passedByAll_11 rfl flX0_18 (by decide) rfl rfl ?_
      refine wp_iload_n (pc' := 15) dX0_passedByAll_14 rfl rfl ?_
      refine wp_cSI (μ' := mX6_at) (pc' := 18) dX0_passedByAll_15 rfl mlX0_47 cfX6_at ⟨(Nat.le_of_ble_eq_true rfl), (Nat.le_of_ble_eq_true rfl)⟩ (sp_at arr16) rfl rfl (Nat.le_of_ble_eq_true rfl) ?_
      refine wp_iadd (pc' := 19) dX0_passedByAll_18 rfl ?_
      refine wp_ist1 (pc' := 20) dX0_passedByAll_19 rfl (by decide) rfl ?_
      refine wp_inc2 (pc' := 23) (nI (j + 1)) dX0_passedByAll_20 rfl (by decide) rfl (nI_1 j) ?_
      refine wp_goto 4 dX0_passedByAll_23 (by decide) ?_
      exact ih (j + 1) (by omega) _
theorem sp_passedByAll {g : GG} {M : Mem} : RI g mX0_passedByAll [ob g 13] M (pbF M 4 0 0) M := by
  refine spec_of_wp (ls := [some (ob g 13), none, none]) rfl (Nat.le_of_ble_eq_true rfl) 2 rfl ?_
  refine wp_iconst (pc' := 1) 0 dX0_passedByAll_0 rfl (by decide) ?_
  refine wp_ist1 (pc' := 2) dX0_passedByAll_1 rfl (by decide) rfl ?_
  refine wp_iconst (pc' := 3) 0 dX0_passedByAll_2 rfl (by decide) ?_
  refine wp_ist2 (pc' := 4) dX0_passedByAll_3 rfl (by decide) rfl ?_
  exact lp_passedByAll 4 0 rfl _
def sinkM (M : Mem) (c : Int32) : Mem := putM (upI (upI M 13 1 (M.1 13 1 &&& (shl 1 c ^^^ (-1)))) 13 0 (M.1 13 0 ||| shl 1 c)) 15 24 c (-9)
def stepM (M : Mem) (c : Int32) : Mem := if hasF (M.1 13 1) c = 0 ∨ atF 24 (M.1 14) c = 0 then M else if atF 24 (M.1 14) c = 1 then sinkM (putM M 14 24 c (atF 24 (M.1 14) c - 1)) c else putM M 14 24 c (atF 24 (M.1 14) c - 1)
theorem sp_stepOn {g : GG} {M : Mem} {c : Int32} : RV g mX0_stepOn [ob g 13, .int c] M (stepM M c) := by
  refine spec_of_wp (ls := [some (ob g 13), some (.int c), none]) rfl (Nat.le_of_ble_eq_true rfl) 1 rfl ?_
  refine wp_aload_n (pc' := 1) dX0_stepOn_0 rfl rfl ⟨_, rfl⟩ ?_
  refine wp_get (pc' := 4) (o := 13) dX0_stepOn_1 rfl flX0_9 (by decide) rfl rfl ?_
  refine wp_iload_n (pc' := 5) dX0_stepOn_4 rfl rfl ?_
  refine wp_cSI (μ' := mX6_at) (pc' := 8) dX0_stepOn_5 rfl mlX0_47 cfX6_at ⟨(Nat.le_of_ble_eq_true rfl), (Nat.le_of_ble_eq_true rfl)⟩ (sp_at arr14) rfl rfl (Nat.le_of_ble_eq_true rfl) ?_
  refine wp_ist2 (pc' := 9) dX0_stepOn_8 rfl (by decide) rfl ?_
  refine wp_aload_n (pc' := 10) dX0_stepOn_9 rfl rfl ⟨_, rfl⟩ ?_
  refine wp_get (pc' := 13) (o := 13) dX0_stepOn_10 rfl flX0_31 (by decide) rfl rfl ?_
  refine wp_iload_n (pc' := 14) dX0_stepOn_13 rfl rfl ?_
  refine wp_cSI (μ' := mX6_has) (pc' := 17) dX0_stepOn_14 rfl mlX0_32 cfX6_has ⟨(Nat.le_of_ble_eq_true rfl), (Nat.le_of_ble_eq_true rfl)⟩ (sp_has) rfl rfl (Nat.le_of_ble_eq_true rfl) ?_
  refine wp_if_eq (pc' := 20) 24 dX0_stepOn_17 rfl (by decide) (fun h17 => ?_) (fun h17 => ?_)
  · refine wp_vret dX0_stepOn_24 rfl ?_
    exact rv_ok (by rw [stepM, if_pos (Or.inl h17)])
  · refine wp_iload_n (pc' := 21) dX0_stepOn_20 rfl rfl ?_
    refine wp_if_ne (pc' := 24) 25 dX0_stepOn_21 rfl (by decide) (fun h21 => ?_) (fun h21 => ?_)
    · refine wp_aload_n (pc' := 26) dX0_stepOn_25 rfl rfl ⟨_, rfl⟩ ?_
      refine wp_get (pc' := 29) (o := 13) dX0_stepOn_26 rfl flX0_9 (by decide) rfl rfl ?_
      refine wp_iload_n (pc' := 30) dX0_stepOn_29 rfl rfl ?_
      refine wp_iload_n (pc' := 31) dX0_stepOn_30 rfl rfl ?_
      refine wp_iconst (pc' := 32) 1 dX0_stepOn_31 rfl (by decide) ?_
      refine wp_isub (pc' := 33) dX0_stepOn_32 rfl ?_
      refine wp_cSV (μ' := mX6_put) (pc' := 36) dX0_stepOn_33 rfl mlX0_39 cfX6_put ⟨(Nat.le_of_ble_eq_true rfl), (Nat.le_of_ble_eq_true rfl)⟩ (sp_put arr14) rfl rfl (Nat.le_of_ble_eq_true rfl) ?_
      refine wp_iload_n (pc' := 37) dX0_stepOn_36 rfl rfl ?_
      refine wp_iconst (pc' := 38) 1 dX0_stepOn_37 rfl (by decide) ?_
      refine wp_icmp_ne (pc' := 41) 77 dX0_stepOn_38 rfl (by decide) (fun h38 => ?_) (fun h38 => ?_)
      · refine wp_vret dX0_stepOn_77 rfl ?_
        exact rv_ok (by rw [stepM, if_neg (fun h => h.elim h17 h21), if_neg h38])
      · refine wp_aload_n (pc' := 42) dX0_stepOn_41 rfl rfl ⟨_, rfl⟩ ?_
        refine wp_dup (pc' := 43) dX0_stepOn_42 rfl rfl ?_
        refine wp_get (pc' := 46) (o := 13) dX0_stepOn_43 rfl flX0_31 (by decide) rfl rfl ?_
        refine wp_iconst (pc' := 47) 1 dX0_stepOn_46 rfl (by decide) ?_
        refine wp_iload_n (pc' := 48) dX0_stepOn_47 rfl rfl ?_
        refine wp_ishl (pc' := 49) dX0_stepOn_48 rfl ?_
        refine wp_iconst (pc' := 50) (-1) dX0_stepOn_49 rfl (by decide) ?_
        refine wp_ixor (pc' := 51) dX0_stepOn_50 rfl ?_
        refine wp_iand (pc' := 52) dX0_stepOn_51 rfl ?_
        refine wp_put (pc' := 55) (o := 13) dX0_stepOn_52 rfl fpX0_31 (by decide) rfl (Nat.le_of_ble_eq_true rfl) rfl ?_
        refine wp_aload_n (pc' := 56) dX0_stepOn_55 rfl rfl ⟨_, rfl⟩ ?_
        refine wp_dup (pc' := 57) dX0_stepOn_56 rfl rfl ?_
        refine wp_get (pc' := 60) (o := 13) dX0_stepOn_57 rfl flX0_27 (by decide) rfl rfl ?_
        refine wp_iconst (pc' := 61) 1 dX0_stepOn_60 rfl (by decide) ?_
        refine wp_iload_n (pc' := 62) dX0_stepOn_61 rfl rfl ?_
        refine wp_ishl (pc' := 63) dX0_stepOn_62 rfl ?_
        refine wp_ior (pc' := 64) dX0_stepOn_63 rfl ?_
        refine wp_put (pc' := 67) (o := 13) dX0_stepOn_64 rfl fpX0_27 (by decide) rfl (Nat.le_of_ble_eq_true rfl) rfl ?_
        refine wp_aload_n (pc' := 68) dX0_stepOn_67 rfl rfl ⟨_, rfl⟩ ?_
        refine wp_get (pc' := 71) (o := 13) dX0_stepOn_68 rfl flX0_15 (by decide) rfl rfl ?_
        refine wp_iload_n (pc' := 72) dX0_stepOn_71 rfl rfl ?_
        refine wp_bipush (pc' := 74) (-9) dX0_stepOn_72 rfl (by decide) ?_
        refine wp_cSV (μ' := mX6_put) (pc' := 77) dX0_stepOn_74 rfl mlX0_39 cfX6_put ⟨(Nat.le_of_ble_eq_true rfl), (Nat.le_of_ble_eq_true rfl)⟩ (sp_put arr15) rfl rfl (Nat.le_of_ble_eq_true rfl) ?_
        refine wp_vret dX0_stepOn_77 rfl ?_
        exact rv_ok (by rw [stepM, if_neg (fun h => h.elim h17 h21), if_pos h38]; rfl)
    · refine wp_vret dX0_stepOn_24 rfl ?_
      exact rv_ok (by rw [stepM, if_pos (Or.inr h21)])
def layG (M : Mem) (k c sink : Int32) : Mem := putM (putM (upI (upI M 13 0 (M.1 13 0 &&& (shl 1 c ^^^ (-1)))) 13 1 (M.1 13 1 ||| shl 1 c)) 14 24 c sink) 15 24 c k
def layM (M : Mem) (k c sink : Int32) : Mem := putM (layG M k c sink) 16 4 k (atF 4 ((layG M k c sink).1 16) k + 1)
theorem sp_lay {g : GG} {M : Mem} {k c sink : Int32} : RV g mX0_lay [ob g 13, .int k, .int c, .int sink] M (layM M k c sink) := by
  refine spec_of_wp (ls := [some (ob g 13), some (.int k), some (.int c), some (.int sink)]) rfl (Nat.le_of_ble_eq_true rfl) 0 rfl ?_
  refine wp_aload_n (pc' := 1) dX0_lay_0 rfl rfl ⟨_, rfl⟩ ?_
  refine wp_dup (pc' := 2) dX0_lay_1 rfl rfl ?_
  refine wp_get (pc' := 5) (o := 13) dX0_lay_2 rfl flX0_27 (by decide) rfl rfl ?_
  refine wp_iconst (pc' := 6) 1 dX0_lay_5 rfl (by decide) ?_
  refine wp_iload_n (pc' := 7) dX0_lay_6 rfl rfl ?_
  refine wp_ishl (pc' := 8) dX0_lay_7 rfl ?_
  refine wp_iconst (pc' := 9) (-1) dX0_lay_8 rfl (by decide) ?_
  refine wp_ixor (pc' := 10) dX0_lay_9 rfl ?_
  refine wp_iand (pc' := 11) dX0_lay_10 rfl ?_
  refine wp_put (pc' := 14) (o := 13) dX0_lay_11 rfl fpX0_27 (by decide) rfl (Nat.le_of_ble_eq_true rfl) rfl ?_
  refine wp_aload_n (pc' := 15) dX0_lay_14 rfl rfl ⟨_, rfl⟩ ?_
  refine wp_dup (pc' := 16) dX0_lay_15 rfl rfl ?_
  refine wp_get (pc' := 19) (o := 13) dX0_lay_16 rfl flX0_31 (by decide) rfl rfl ?_
  refine wp_iconst (pc' := 20) 1 dX0_lay_19 rfl (by decide) ?_
  refine wp_iload_n (pc' := 21) dX0_lay_20 rfl rfl ?_
  refine wp_ishl (pc' := 22) dX0_lay_21 rfl ?_
  refine wp_ior (pc' := 23) dX0_lay_22 rfl ?_
  refine wp_put (pc' := 26) (o := 13) dX0_lay_23 rfl fpX0_31 (by decide) rfl (Nat.le_of_ble_eq_true rfl) rfl ?_
  refine wp_aload_n (pc' := 27) dX0_lay_26 rfl rfl ⟨_, rfl⟩ ?_
  refine wp_get (pc' := 30) (o := 13) dX0_lay_27 rfl flX0_9 (by decide) rfl rfl ?_
  refine wp_iload_n (pc' := 31) dX0_lay_30 rfl rfl ?_
  refine wp_iload_n (pc' := 32) dX0_lay_31 rfl rfl ?_
  refine wp_cSV (μ' := mX6_put) (pc' := 35) dX0_lay_32 rfl mlX0_39 cfX6_put ⟨(Nat.le_of_ble_eq_true rfl), (Nat.le_of_ble_eq_true rfl)⟩ (sp_put arr14) rfl rfl (Nat.le_of_ble_eq_true rfl) ?_
  refine wp_aload_n (pc' := 36) dX0_lay_35 rfl rfl ⟨_, rfl⟩ ?_
  refine wp_get (pc' := 39) (o := 13) dX0_lay_36 rfl flX0_15 (by decide) rfl rfl ?_
  refine wp_iload_n (pc' := 40) dX0_lay_39 rfl rfl ?_
  refine wp_iload_n (pc' := 41) dX0_lay_40 rfl rfl ?_
  refine wp_cSV (μ' := mX6_put) (pc' := 44) dX0_lay_41 rfl mlX0_39 cfX6_put ⟨(Nat.le_of_ble_eq_true rfl), (Nat.le_of_ble_eq_true rfl)⟩ (sp_put arr15) rfl rfl (Nat.le_of_ble_eq_true rfl) ?_
  refine wp_aload_n (pc' := 45) dX0_lay_44 rfl rfl ⟨_, rfl⟩ ?_
  refine wp_get (pc' := 48) (o := 13) dX0_lay_45 rfl flX0_18 (by decide) rfl rfl ?_
  refine wp_iload_n (pc' := 49) dX0_lay_48 rfl rfl ?_
  refine wp_aload_n (pc' := 50) dX0_lay_49 rfl rfl ⟨_, rfl⟩ ?_
  refine wp_get (pc' := 53) (o := 13) dX0_lay_50 rfl flX0_18 (by decide) rfl rfl ?_
  refine wp_iload_n (pc' := 54) dX0_lay_53 rfl rfl ?_
  refine wp_cSI (μ' := mX6_at) (pc' := 57) dX0_lay_54 rfl mlX0_47 cfX6_at ⟨(Nat.le_of_ble_eq_true rfl), (Nat.le_of_ble_eq_true rfl)⟩ (sp_at arr16) rfl rfl (Nat.le_of_ble_eq_true rfl) ?_
  refine wp_iconst (pc' := 58) 1 dX0_lay_57 rfl (by decide) ?_
  refine wp_iadd (pc' := 59) dX0_lay_58 rfl ?_
  refine wp_cSV (μ' := mX6_put) (pc' := 62) dX0_lay_59 rfl mlX0_39 cfX6_put ⟨(Nat.le_of_ble_eq_true rfl), (Nat.le_of_ble_eq_true rfl)⟩ (sp_put arr16) rfl rfl (Nat.le_of_ble_eq_true rfl) ?_
  refine wp_vret dX0_lay_62 rfl ?_
  exact rv_ok rfl
/-! Ways.measure -/
theorem upI_setO (M : Mem) (o k : Nat) (f : Nat → Int32) (v : Int32) : upI (setO M o f) o k v = setO M o (upd f k v) := by
  refine Prod.ext (funext fun a => ?_) rfl
  show (if a = o then upd ((setO M o f).1 o) k v else (if a = o then f else M.1 a)) = (if a = o then upd f k v else M.1 a)
  rw [setO_eq]
  by_cases h : a = o <;> simp [h]
theorem upI_is (M : Mem) (o k : Nat) (v : Int32) : upI M o k v = setO M o (upd (M.1 o) k v) := rfl
def mesF (w : Int32) : Nat → Nat → (Nat → Int32) → (Nat → Int32)
  | 0, _, f => f
  | n + 1, j, f => mesF w n (j + 1) (upd (upd f 2 (f 2 ||| shl 1 (nI j * w))) 3 (f 3 ||| shl 1 (nI j * w + w - 1)))
def mesM (M : Mem) (w : Int32) (h : Nat) : Mem := setO M 11 (mesF w h 0 (upd (upd (upd (upd (M.1 11) 0 w) 1 (shl 1 (w * nI h) - 1)) 2 0) 3 0))
theorem lp_measure {g : GG} {M : Mem} {w : Int32} {h : Nat} (hh : h < 2 ^ 31) : ∀ (n j : Nat), j + n = h → ∀ (f : Nat → Int32), wp g mX5_measure 28 [some (ob g 11), some (.int w), some (.int (nI h)), some (.int (nI j))] [] (setO M 11 f) (fun q m => q = none ∧ m = setO M 11 (mesF w n j f)) := by
  intro n
  induction n with
  | zero =>
    intro j hj f
    obtain rfl : j = h := by omega
    refine wp_iload_n (pc' := 29) dX5_measure_28 rfl rfl ?_
    refine wp_iload_n (pc' := 30) dX5_measure_29 rfl rfl ?_
    refine wp_icmp_ge (pc' := 33) 71 dX5_measure_30 rfl (by decide) (fun h30 => ?_) (fun h30 => ?_)
    · refine wp_vret dX5_measure_71 rfl ?_
      exact rv_ok rfl
    · exact absurd (nI_le (Nat.le_refl j) hh) h30
  | succ n ih =>
    intro j hj f
    refine wp_iload_n (pc' := 29) dX5_measure_28 rfl rfl ?_
    refine wp_iload_n (pc' := 30) dX5_measure_29 rfl rfl ?_
    refine wp_icmp_ge (pc' := 33) 71 dX5_measure_30 rfl (by decide) (fun h30 => ?_) (fun h30 => ?_)
    · refine wp_vret dX5_measure_71 rfl ?_
      exact absurd h30 (nI_ge (by omega) hh)
    · refine wp_aload_n (pc' := 34) dX5_measure_33 rfl rfl ⟨_, rfl⟩ ?_
      refine wp_dup (pc' := 35) dX5_measure_34 rfl rfl ?_
      refine wp_get (pc' := 38) (o := 11) dX5_measure_35 rfl flX5_18 (by decide) rfl rfl ?_
      refine wp_iconst (pc' := 39) 1 dX5_measure_38 rfl (by decide) ?_
      refine wp_iload_n (pc' := 40) dX5_measure_39 rfl rfl ?_
      refine wp_iload_n (pc' := 41) dX5_measure_40 rfl rfl ?_
      refine wp_imul (pc' := 42) dX5_measure_41 rfl ?_
      refine wp_ishl (pc' := 43) dX5_measure_42 rfl ?_
      refine wp_ior (pc' := 44) dX5_measure_43 rfl ?_
      refine wp_put (pc' := 47) (o := 11) dX5_measure_44 rfl fpX5_18 (by decide) rfl (Nat.le_of_ble_eq_true rfl) rfl ?_
      refine wp_aload_n (pc' := 48) dX5_measure_47 rfl rfl ⟨_, rfl⟩ ?_
      refine wp_dup (pc' := 49) dX5_measure_48 rfl rfl ?_
      refine wp_get (pc' := 52) (o := 11) dX5_measure_49 rfl flX5_21 (by decide) rfl rfl ?_
      refine wp_iconst (pc' := 53) 1 dX5_measure_52 rfl (by decide) ?_
      refine wp_iload_n (pc' := 54) dX5_measure_53 rfl rfl ?_
      refine wp_iload_n (pc' := 55) dX5_measure_54 rfl rfl ?_
      refine wp_imul (pc' := 56) dX5_measure_55 rfl ?_
      refine wp_iload_n (pc' := 57) dX5_measure_56 rfl rfl ?_
      refine wp_iadd (pc' := 58) dX5_measure_57 rfl ?_
      refine wp_iconst (pc' := 59) 1 dX5_measure_58 rfl (by decide) ?_
      refine wp_isub (pc' := 60) dX5_measure_59 rfl ?_
      refine wp_ishl (pc' := 61) dX5_measure_60 rfl ?_
      refine wp_ior (pc' := 62) dX5_measure_61 rfl ?_
      refine wp_put (pc' := 65) (o := 11) dX5_measure_62 rfl fpX5_21 (by decide) rfl (Nat.le_of_ble_eq_true rfl) rfl ?_
      refine wp_inc3 (pc' := 68) (nI (j + 1)) dX5_measure_65 rfl (by decide) rfl (nI_1 j) ?_
      refine wp_goto 28 dX5_measure_68 (by decide) ?_
      rw [upI_setO, upI_setO, setO_eq, setO_eq]
      exact ih (j + 1) (by omega) _
theorem sp_measure {g : GG} {M : Mem} {w : Int32} {h : Nat} (hh : h < 2 ^ 31) : RV g mX5_measure [ob g 11, .int w, .int (nI h)] M (mesM M w h) := by
  refine spec_of_wp (ls := [some (ob g 11), some (.int w), some (.int (nI h)), none]) rfl (Nat.le_of_ble_eq_true rfl) 1 rfl ?_
  refine wp_aload_n (pc' := 1) dX5_measure_0 rfl rfl ⟨_, rfl⟩ ?_
  refine wp_iload_n (pc' := 2) dX5_measure_1 rfl rfl ?_
  refine wp_put (pc' := 5) (o := 11) dX5_measure_2 rfl fpX5_9 (by decide) rfl (Nat.le_of_ble_eq_true rfl) rfl ?_
  refine wp_aload_n (pc' := 6) dX5_measure_5 rfl rfl ⟨_, rfl⟩ ?_
  refine wp_iconst (pc' := 7) 1 dX5_measure_6 rfl (by decide) ?_
  refine wp_iload_n (pc' := 8) dX5_measure_7 rfl rfl ?_
  refine wp_iload_n (pc' := 9) dX5_measure_8 rfl rfl ?_
  refine wp_imul (pc' := 10) dX5_measure_9 rfl ?_
  refine wp_ishl (pc' := 11) dX5_measure_10 rfl ?_
  refine wp_iconst (pc' := 12) 1 dX5_measure_11 rfl (by decide) ?_
  refine wp_isub (pc' := 13) dX5_measure_12 rfl ?_
  refine wp_put (pc' := 16) (o := 11) dX5_measure_13 rfl fpX5_15 (by decide) rfl (Nat.le_of_ble_eq_true rfl) rfl ?_
  refine wp_aload_n (pc' := 17) dX5_measure_16 rfl rfl ⟨_, rfl⟩ ?_
  refine wp_iconst (pc' := 18) 0 dX5_measure_17 rfl (by decide) ?_
  refine wp_put (pc' := 21) (o := 11) dX5_measure_18 rfl fpX5_18 (by decide) rfl (Nat.le_of_ble_eq_true rfl) rfl ?_
  refine wp_aload_n (pc' := 22) dX5_measure_21 rfl rfl ⟨_, rfl⟩ ?_
  refine wp_iconst (pc' := 23) 0 dX5_measure_22 rfl (by decide) ?_
  refine wp_put (pc' := 26) (o := 11) dX5_measure_23 rfl fpX5_21 (by decide) rfl (Nat.le_of_ble_eq_true rfl) rfl ?_
  refine wp_iconst (pc' := 27) 0 dX5_measure_26 rfl (by decide) ?_
  refine wp_ist3 (pc' := 28) dX5_measure_27 rfl (by decide) rfl ?_
  rw [upI_is M 11 0 _, upI_setO, upI_setO, upI_setO]
  exact lp_measure hh h 0 (Nat.zero_add h) _
end
section

/-! Plans -/
def lenF (x : Int32) : Int32 := if x = -9 then 24 else x
def btlF (nr : Int32 → Int32) (a b bear bog : Int32) : Nat → Nat → Int32 → Int32 → Int32
  | 0, _, best, _ => best
  | n + 1, j, best, few => if hasF bog (nI j) = 0 then btlF nr a b bear bog n (j + 1) best few else if few ≤ lenF (fsF nr a b (bear ||| shl 1 (nI j))) then btlF nr a b bear bog n (j + 1) best few else btlF nr a b bear bog n (j + 1) (nI j) (lenF (fsF nr a b (bear ||| shl 1 (nI j))))

theorem lp_bestToLay {g : GG} {M : Mem} {a b bear bog : Int32} : ∀ (n j : Nat), j + n = 24 → ∀ (best few : Int32) (x8 x9 : Option Value), wp g mX1_bestToLay 11 [some (ob g 10), some (.int a), some (.int b), some (.int bear), some (.int bog), some (.int best), some (.int few), some (.int (nI j)), x8, x9] [] M (fun q m => q = some (.int (btlF (nearM M) a b bear bog n j best few)) ∧ m = M) := by
  intro n
  induction n with
  | zero =>
    intro j hj best few x8 x9
    obtain rfl : j = 24 := by omega
    refine wp_iload (pc' := 13) dX1_bestToLay_11 rfl rfl ?_
    refine wp_bipush (pc' := 15) 24 dX1_bestToLay_13 rfl (by decide) ?_
    refine wp_icmp_ge (pc' := 18) 82 dX1_bestToLay_15 rfl (by decide) (fun _ => ?_) (fun hh => absurd hh (by decide))
    refine wp_iload (pc' := 84) dX1_bestToLay_82 rfl rfl ?_
    refine wp_ireti dX1_bestToLay_84 rfl ?_
    exact ri_ok rfl rfl
  | succ n ih =>
    intro j hj best few x8 x9
    refine wp_iload (pc' := 13) dX1_bestToLay_11 rfl rfl ?_
    refine wp_bipush (pc' := 15) 24 dX1_bestToLay_13 rfl (by decide) ?_
    refine wp_icmp_ge (pc' := 18) 82 dX1_bestToLay_15 rfl (by decide) (fun h15 => ?_) (fun h15 => ?_)
    · refine wp_iload (pc' := 84) dX1_bestToLay_82 rfl rfl ?_
      refine wp_ireti dX1_bestToLay_84 rfl ?_
      exact absurd h15 (nI_ge (a := j) (b := 24) (by omega) (by decide))
    · refine wp_iload (pc' := 20) dX1_bestToLay_18 rfl rfl ?_
      refine wp_iload (pc' := 22) dX1_bestToLay_20 rfl rfl ?_
      refine wp_cSI (μ' := mX6_has) (pc' := 25) dX1_bestToLay_22 rfl mlX1_22 cfX6_has ⟨(Nat.le_of_ble_eq_true rfl), (Nat.le_of_ble_eq_true rfl)⟩ (sp_has) rfl rfl (Nat.le_of_ble_eq_true rfl) ?_
      refine wp_if_eq (pc' := 28) 76 dX1_bestToLay_25 rfl (by decide) (fun h25 => ?_) (fun h25 => ?_)
      · refine wp_inc7 (pc' := 79) (nI (j + 1)) dX1_bestToLay_76 rfl (by decide) rfl (nI_1 j) ?_
        refine wp_goto 11 dX1_bestToLay_79 (by decide) ?_
        rw [btlF, if_pos h25]
        exact ih (j + 1) (by omega) _ _ _ _
      · refine wp_aload_n (pc' := 29) dX1_bestToLay_28 rfl rfl ⟨_, rfl⟩ ?_
        refine wp_get (pc' := 32) (o := 10) dX1_bestToLay_29 rfl flX1_12 (by decide) rfl rfl ?_
        refine wp_iload_n (pc' := 33) dX1_bestToLay_32 rfl rfl ?_
        refine wp_iload_n (pc' := 34) dX1_bestToLay_33 rfl rfl ?_
        refine wp_iload_n (pc' := 35) dX1_bestToLay_34 rfl rfl ?_
        refine wp_iconst (pc' := 36) 1 dX1_bestToLay_35 rfl (by decide) ?_
        refine wp_iload (pc' := 38) dX1_bestToLay_36 rfl rfl ?_
        refine wp_ishl (pc' := 39) dX1_bestToLay_38 rfl ?_
        refine wp_ior (pc' := 40) dX1_bestToLay_39 rfl ?_
        refine wp_cVI (μ' := mX5_fewestSteps) (pc' := 43) (o := 11) dX1_bestToLay_40 rfl mlX1_26 cfX5_fewestSteps ⟨(Nat.le_of_ble_eq_true rfl), (Nat.le_of_ble_eq_true rfl)⟩ (sp_fewestSteps) (by decide) rfl rfl rfl rfl rfl (Nat.le_of_ble_eq_true rfl) ?_
        refine wp_ist8 (pc' := 45) dX1_bestToLay_43 rfl (by decide) rfl ?_
        refine wp_iload (pc' := 47) dX1_bestToLay_45 rfl rfl ?_
        refine wp_bipush (pc' := 49) (-9) dX1_bestToLay_47 rfl (by decide) ?_
        refine wp_icmp_ne (pc' := 52) 57 dX1_bestToLay_49 rfl (by decide) (fun h49 => ?_) (fun h49 => ?_)
        · refine wp_iload (pc' := 59) dX1_bestToLay_57 rfl rfl ?_
          refine wp_ist9 (pc' := 61) dX1_bestToLay_59 rfl (by decide) rfl ?_
          refine wp_iload (pc' := 63) dX1_bestToLay_61 rfl rfl ?_
          refine wp_iload (pc' := 65) dX1_bestToLay_63 rfl rfl ?_
          refine wp_icmp_ge (pc' := 68) 76 dX1_bestToLay_65 rfl (by decide) (fun h65 => ?_) (fun h65 => ?_)
          · refine wp_inc7 (pc' := 79) (nI (j + 1)) dX1_bestToLay_76 rfl (by decide) rfl (nI_1 j) ?_
            refine wp_goto 11 dX1_bestToLay_79 (by decide) ?_
            rw [btlF, if_neg h25, if_pos (by rw [lenF, if_neg h49]; exact h65)]
            exact ih (j + 1) (by omega) _ _ _ _
          · refine wp_iload (pc' := 70) dX1_bestToLay_68 rfl rfl ?_
            refine wp_ist6 (pc' := 72) dX1_bestToLay_70 rfl (by decide) rfl ?_
            refine wp_iload (pc' := 74) dX1_bestToLay_72 rfl rfl ?_
            refine wp_ist5 (pc' := 76) dX1_bestToLay_74 rfl (by decide) rfl ?_
            refine wp_inc7 (pc' := 79) (nI (j + 1)) dX1_bestToLay_76 rfl (by decide) rfl (nI_1 j) ?_
            refine wp_goto 11 dX1_bestToLay_79 (by decide) ?_
            rw [btlF, if_neg h25, if_neg (by rw [lenF, if_neg h49]; exact h65), lenF, if_neg h49]
            exact ih (j + 1) (by omega) _ _ _ _
        · refine wp_bipush (pc' := 54) 24 dX1_bestToLay_52 rfl (by decide) ?_
          refine wp_goto 59 dX1_bestToLay_54 (by decide) ?_
          refine wp_ist9 (pc' := 61) dX1_bestToLay_59 rfl (by decide) rfl ?_
          refine wp_iload (pc' := 63) dX1_bestToLay_61 rfl rfl ?_
          refine wp_iload (pc' := 65) dX1_bestToLay_63 rfl rfl ?_
          refine wp_icmp_ge (pc' := 68) 76 dX1_bestToLay_65 rfl (by decide) (fun h65 => ?_) (fun h65 => ?_)
          · refine wp_inc7 (pc' := 79) (nI (j + 1)) dX1_bestToLay_76 rfl (by decide) rfl (nI_1 j) ?_
            refine wp_goto 11 dX1_bestToLay_79 (by decide) ?_
            rw [btlF, if_neg h25, if_pos (by rw [lenF, if_pos h49]; exact h65)]
            exact ih (j + 1) (by omega) _ _ _ _
          · refine wp_iload (pc' := 70) dX1_bestToLay_68 rfl rfl ?_
            refine wp_ist6 (pc' := 72) dX1_bestToLay_70 rfl (by decide) rfl ?_
            refine wp_iload (pc' := 74) dX1_bestToLay_72 rfl rfl ?_
            refine wp_ist5 (pc' := 76) dX1_bestToLay_74 rfl (by decide) rfl ?_
            refine wp_inc7 (pc' := 79) (nI (j + 1)) dX1_bestToLay_76 rfl (by decide) rfl (nI_1 j) ?_
            refine wp_goto 11 dX1_bestToLay_79 (by decide) ?_
            rw [btlF, if_neg h25, if_neg (by rw [lenF, if_pos h49]; exact h65), lenF, if_pos h49]
            exact ih (j + 1) (by omega) _ _ _ _
theorem sp_bestToLay {g : GG} {M : Mem} {a b bear bog : Int32} : RI g mX1_bestToLay [ob g 10, .int a, .int b, .int bear, .int bog] M (btlF (nearM M) a b bear bog 24 0 (-9) 25) M := by
  refine spec_of_wp (ls := [some (ob g 10), some (.int a), some (.int b), some (.int bear), some (.int bog), none, none, none, none, none]) rfl (Nat.le_of_ble_eq_true rfl) 5 rfl ?_
  refine wp_bipush (pc' := 2) (-9) dX1_bestToLay_0 rfl (by decide) ?_
  refine wp_ist5 (pc' := 4) dX1_bestToLay_2 rfl (by decide) rfl ?_
  refine wp_bipush (pc' := 6) 25 dX1_bestToLay_4 rfl (by decide) ?_
  refine wp_ist6 (pc' := 8) dX1_bestToLay_6 rfl (by decide) rfl ?_
  refine wp_iconst (pc' := 9) 0 dX1_bestToLay_8 rfl (by decide) ?_
  refine wp_ist7 (pc' := 11) dX1_bestToLay_9 rfl (by decide) rfl ?_
  exact lp_bestToLay 24 0 rfl _ _ _ _
def jaF (nr : Int32 → Int32) (set bear : Int32) : Int32 := if ¬ set &&& (bear ^^^ (-1)) = 0 then 0 else if ¬ set &&& (spF nr bear 24 (set &&& -set) ^^^ (-1)) = 0 then 0 else 1
theorem sp_joinsAll {g : GG} {M : Mem} {set bear : Int32} : RI g mX1_joinsAll [ob g 10, .int set, .int bear] M (jaF (nearM M) set bear) M := by
  refine spec_of_wp (ls := [some (ob g 10), some (.int set), some (.int bear), none]) rfl (Nat.le_of_ble_eq_true rfl) 1 rfl ?_
  refine wp_iload_n (pc' := 1) dX1_joinsAll_0 rfl rfl ?_
  refine wp_iload_n (pc' := 2) dX1_joinsAll_1 rfl rfl ?_
  refine wp_ineg (pc' := 3) dX1_joinsAll_2 rfl ?_
  refine wp_iand (pc' := 4) dX1_joinsAll_3 rfl ?_
  refine wp_ist3 (pc' := 5) dX1_joinsAll_4 rfl (by decide) rfl ?_
  refine wp_iload_n (pc' := 6) dX1_joinsAll_5 rfl rfl ?_
  refine wp_iload_n (pc' := 7) dX1_joinsAll_6 rfl rfl ?_
  refine wp_iconst (pc' := 8) (-1) dX1_joinsAll_7 rfl (by decide) ?_
  refine wp_ixor (pc' := 9) dX1_joinsAll_8 rfl ?_
  refine wp_iand (pc' := 10) dX1_joinsAll_9 rfl ?_
  refine wp_if_ne (pc' := 13) 33 dX1_joinsAll_10 rfl (by decide) (fun h10 => ?_) (fun h10 => ?_)
  · refine wp_iconst (pc' := 34) 0 dX1_joinsAll_33 rfl (by decide) ?_
    refine wp_iretz dX1_joinsAll_34 rfl rfl ?_
    exact ri_ok (by rw [jaF, if_pos h10]) rfl
  · refine wp_iload_n (pc' := 14) dX1_joinsAll_13 rfl rfl ?_
    refine wp_aload_n (pc' := 15) dX1_joinsAll_14 rfl rfl ⟨_, rfl⟩ ?_
    refine wp_get (pc' := 18) (o := 10) dX1_joinsAll_15 rfl flX1_12 (by decide) rfl rfl ?_
    refine wp_iload_n (pc' := 19) dX1_joinsAll_18 rfl rfl ?_
    refine wp_iload_n (pc' := 20) dX1_joinsAll_19 rfl rfl ?_
    refine wp_cVI (μ' := mX5_spread) (pc' := 23) (o := 11) dX1_joinsAll_20 rfl mlX1_39 cfX5_spread ⟨(Nat.le_of_ble_eq_true rfl), (Nat.le_of_ble_eq_true rfl)⟩ (sp_spread) (by decide) rfl rfl rfl rfl rfl (Nat.le_of_ble_eq_true rfl) ?_
    refine wp_iconst (pc' := 24) (-1) dX1_joinsAll_23 rfl (by decide) ?_
    refine wp_ixor (pc' := 25) dX1_joinsAll_24 rfl ?_
    refine wp_iand (pc' := 26) dX1_joinsAll_25 rfl ?_
    refine wp_if_ne (pc' := 29) 33 dX1_joinsAll_26 rfl (by decide) (fun h26 => ?_) (fun h26 => ?_)
    · refine wp_iconst (pc' := 34) 0 dX1_joinsAll_33 rfl (by decide) ?_
      refine wp_iretz dX1_joinsAll_34 rfl rfl ?_
      exact ri_ok (by rw [jaF, if_neg (fun h => h h10), if_pos h26]) rfl
    · refine wp_iconst (pc' := 30) 1 dX1_joinsAll_29 rfl (by decide) ?_
      refine wp_goto 34 dX1_joinsAll_30 (by decide) ?_
      refine wp_iretz dX1_joinsAll_34 rfl rfl ?_
      exact ri_ok (by rw [jaF, if_neg (fun h => h h10), if_neg (fun h => h h26)]) rfl

def ljF (nr : Int32 → Int32) (set bear bog : Int32) : Nat → Int32 → Int32 → Int32
  | 0, _, best => best
  | n + 1, part, best => if pcF best ≤ pcF part ∨ jaF nr set (bear ||| part) = 0 then ljF nr set bear bog n ((part - bog) &&& bog) best else ljF nr set bear bog n ((part - bog) &&& bog) part

theorem lp_leastJoining {g : GG} {M : Mem} {set bear bog : Int32} {s : Nat} (hs : s < 2 ^ 31) : ∀ (n j : Nat), j + n = s → ∀ (best part : Int32), wp g mX1_leastJoining 17 [some (ob g 10), some (.int set), some (.int bear), some (.int bog), some (.int (nI s)), some (.int best), some (.int part), some (.int (nI j))] [] M (fun q m => q = some (.int (ljF (nearM M) set bear bog n part best)) ∧ m = M) := by
  intro n
  induction n with
  | zero =>
    intro j hj best part
    obtain rfl : j = s := by omega
    refine wp_iload (pc' := 19) dX1_leastJoining_17 rfl rfl ?_
    refine wp_iload (pc' := 21) dX1_leastJoining_19 rfl rfl ?_
    refine wp_icmp_ge (pc' := 24) 67 dX1_leastJoining_21 rfl (by decide) (fun h21 => ?_) (fun h21 => ?_)
    · refine wp_iload (pc' := 69) dX1_leastJoining_67 rfl rfl ?_
      refine wp_ireti dX1_leastJoining_69 rfl ?_
      exact ri_ok rfl rfl
    · exact absurd (nI_le (Nat.le_refl j) hs) h21
  | succ n ih =>
    intro j hj best part
    refine wp_iload (pc' := 19) dX1_leastJoining_17 rfl rfl ?_
    refine wp_iload (pc' := 21) dX1_leastJoining_19 rfl rfl ?_
    refine wp_icmp_ge (pc' := 24) 67 dX1_leastJoining_21 rfl (by decide) (fun h21 => ?_) (fun h21 => ?_)
    · refine wp_iload (pc' := 69) dX1_leastJoining_67 rfl rfl ?_
      refine wp_ireti dX1_leastJoining_69 rfl ?_
      exact absurd h21 (nI_ge (by omega) hs)
    · refine wp_iload (pc' := 26) dX1_leastJoining_24 rfl rfl ?_
      refine wp_cSI (μ' := mJ6_bitCount_0f7a4) (pc' := 29) dX1_leastJoining_26 rfl mlX1_30 cfJ6_bitCount_0f7a4 ⟨(Nat.le_of_ble_eq_true rfl), (Nat.le_of_ble_eq_true rfl)⟩ (sp_bitCount) rfl rfl (Nat.le_of_ble_eq_true rfl) ?_
      refine wp_iload (pc' := 31) dX1_leastJoining_29 rfl rfl ?_
      refine wp_cSI (μ' := mJ6_bitCount_0f7a4) (pc' := 34) dX1_leastJoining_31 rfl mlX1_30 cfJ6_bitCount_0f7a4 ⟨(Nat.le_of_ble_eq_true rfl), (Nat.le_of_ble_eq_true rfl)⟩ (sp_bitCount) rfl rfl (Nat.le_of_ble_eq_true rfl) ?_
      refine wp_icmp_ge (pc' := 37) 53 dX1_leastJoining_34 rfl (by decide) (fun h34 => ?_) (fun h34 => ?_)
      · refine wp_iload (pc' := 55) dX1_leastJoining_53 rfl rfl ?_
        refine wp_iload_n (pc' := 56) dX1_leastJoining_55 rfl rfl ?_
        refine wp_isub (pc' := 57) dX1_leastJoining_56 rfl ?_
        refine wp_iload_n (pc' := 58) dX1_leastJoining_57 rfl rfl ?_
        refine wp_iand (pc' := 59) dX1_leastJoining_58 rfl ?_
        refine wp_ist6 (pc' := 61) dX1_leastJoining_59 rfl (by decide) rfl ?_
        refine wp_inc7 (pc' := 64) (nI (j + 1)) dX1_leastJoining_61 rfl (by decide) rfl (nI_1 j) ?_
        refine wp_goto 17 dX1_leastJoining_64 (by decide) ?_
        rw [ljF, if_pos (Or.inl h34)]
        exact ih (j + 1) (by omega) _ _
      · refine wp_aload_n (pc' := 38) dX1_leastJoining_37 rfl rfl ⟨_, rfl⟩ ?_
        refine wp_iload_n (pc' := 39) dX1_leastJoining_38 rfl rfl ?_
        refine wp_iload_n (pc' := 40) dX1_leastJoining_39 rfl rfl ?_
        refine wp_iload (pc' := 42) dX1_leastJoining_40 rfl rfl ?_
        refine wp_ior (pc' := 43) dX1_leastJoining_42 rfl ?_
        refine wp_cVI (μ' := mX1_joinsAll) (pc' := 46) (o := 10) dX1_leastJoining_43 rfl mlX1_36 cfX1_joinsAll ⟨(Nat.le_of_ble_eq_true rfl), (Nat.le_of_ble_eq_true rfl)⟩ (sp_joinsAll) (by decide) rfl rfl rfl rfl rfl (Nat.le_of_ble_eq_true rfl) ?_
        refine wp_if_eq (pc' := 49) 53 dX1_leastJoining_46 rfl (by decide) (fun h46 => ?_) (fun h46 => ?_)
        · refine wp_iload (pc' := 55) dX1_leastJoining_53 rfl rfl ?_
          refine wp_iload_n (pc' := 56) dX1_leastJoining_55 rfl rfl ?_
          refine wp_isub (pc' := 57) dX1_leastJoining_56 rfl ?_
          refine wp_iload_n (pc' := 58) dX1_leastJoining_57 rfl rfl ?_
          refine wp_iand (pc' := 59) dX1_leastJoining_58 rfl ?_
          refine wp_ist6 (pc' := 61) dX1_leastJoining_59 rfl (by decide) rfl ?_
          refine wp_inc7 (pc' := 64) (nI (j + 1)) dX1_leastJoining_61 rfl (by decide) rfl (nI_1 j) ?_
          refine wp_goto 17 dX1_leastJoining_64 (by decide) ?_
          rw [ljF, if_pos (Or.inr h46)]
          exact ih (j + 1) (by omega) _ _
        · refine wp_iload (pc' := 51) dX1_leastJoining_49 rfl rfl ?_
          refine wp_ist5 (pc' := 53) dX1_leastJoining_51 rfl (by decide) rfl ?_
          refine wp_iload (pc' := 55) dX1_leastJoining_53 rfl rfl ?_
          refine wp_iload_n (pc' := 56) dX1_leastJoining_55 rfl rfl ?_
          refine wp_isub (pc' := 57) dX1_leastJoining_56 rfl ?_
          refine wp_iload_n (pc' := 58) dX1_leastJoining_57 rfl rfl ?_
          refine wp_iand (pc' := 59) dX1_leastJoining_58 rfl ?_
          refine wp_ist6 (pc' := 61) dX1_leastJoining_59 rfl (by decide) rfl ?_
          refine wp_inc7 (pc' := 64) (nI (j + 1)) dX1_leastJoining_61 rfl (by decide) rfl (nI_1 j) ?_
          refine wp_goto 17 dX1_leastJoining_64 (by decide) ?_
          rw [ljF, if_neg (fun h => h.elim h34 h46)]
          exact ih (j + 1) (by omega) _ _
theorem sp_leastJoining {g : GG} {M : Mem} {set bear bog : Int32} {s : Nat} (hs : s < 2 ^ 31) (he : shl 1 (pcF bog) = nI s) : RI g mX1_leastJoining [ob g 10, .int set, .int bear, .int bog] M (ljF (nearM M) set bear bog s 0 bog) M := by
  refine spec_of_wp (ls := [some (ob g 10), some (.int set), some (.int bear), some (.int bog), none, none, none, none]) rfl (Nat.le_of_ble_eq_true rfl) 4 rfl ?_
  refine wp_iconst (pc' := 1) 1 dX1_leastJoining_0 rfl (by decide) ?_
  refine wp_iload_n (pc' := 2) dX1_leastJoining_1 rfl rfl ?_
  refine wp_cSI (μ' := mJ6_bitCount_0f7a4) (pc' := 5) dX1_leastJoining_2 rfl mlX1_30 cfJ6_bitCount_0f7a4 ⟨(Nat.le_of_ble_eq_true rfl), (Nat.le_of_ble_eq_true rfl)⟩ (sp_bitCount) rfl rfl (Nat.le_of_ble_eq_true rfl) ?_
  refine wp_ishl (pc' := 6) dX1_leastJoining_5 rfl ?_
  refine wp_ist4 (pc' := 8) dX1_leastJoining_6 rfl (by decide) rfl ?_
  refine wp_iload_n (pc' := 9) dX1_leastJoining_8 rfl rfl ?_
  refine wp_ist5 (pc' := 11) dX1_leastJoining_9 rfl (by decide) rfl ?_
  refine wp_iconst (pc' := 12) 0 dX1_leastJoining_11 rfl (by decide) ?_
  refine wp_ist6 (pc' := 14) dX1_leastJoining_12 rfl (by decide) rfl ?_
  refine wp_iconst (pc' := 15) 0 dX1_leastJoining_14 rfl (by decide) ?_
  refine wp_ist7 (pc' := 17) dX1_leastJoining_15 rfl (by decide) rfl ?_
  rw [he]
  exact lp_leastJoining hs s 0 (Nat.zero_add s) _ _

def soonF (i : Int32) : Int32 := if pcF i - pcF i / 2 * 2 = 0 then 1 else 0
def minF (x y : Int32) : Int32 := if y < x then y else x
def maxF (x y : Int32) : Int32 := if x < y then y else x
def bnF (M : Mem) (i soon : Int32) : Nat → Nat → Int32 → Int32
  | 0, _, best => best
  | n + 1, j, best => if hasF i (nI j) = 0 then (if soon = 0 then bnF M i soon n (j + 1) (maxF best (atF 256 (M.1 12) (i ||| shl 1 (nI j)))) else bnF M i soon n (j + 1) (minF best (atF 256 (M.1 12) (i ||| shl 1 (nI j))))) else bnF M i soon n (j + 1) best

theorem lp_bestOfNext {g : GG} {M : Mem} {i soon : Int32} {s : Nat} (hs : s < 2 ^ 31) : ∀ (n j : Nat), j + n = s → ∀ (best : Int32) (x6 : Option Value), wp g mX1_bestOfNext 30 [some (ob g 10), some (.int i), some (.int (nI s)), some (.int soon), some (.int best), some (.int (nI j)), x6] [] M (fun q m => q = some (.int (bnF M i soon n j best)) ∧ m = M) := by
  intro n
  induction n with
  | zero =>
    intro j hj best x6
    obtain rfl : j = s := by omega
    refine wp_iload (pc' := 32) dX1_bestOfNext_30 rfl rfl ?_
    refine wp_iload_n (pc' := 33) dX1_bestOfNext_32 rfl rfl ?_
    refine wp_icmp_ge (pc' := 36) 89 dX1_bestOfNext_33 rfl (by decide) (fun h33 => ?_) (fun h33 => ?_)
    · refine wp_iload (pc' := 91) dX1_bestOfNext_89 rfl rfl ?_
      refine wp_ireti dX1_bestOfNext_91 rfl ?_
      exact ri_ok rfl rfl
    · exact absurd (nI_le (Nat.le_refl j) hs) h33
  | succ n ih =>
    intro j hj best x6
    refine wp_iload (pc' := 32) dX1_bestOfNext_30 rfl rfl ?_
    refine wp_iload_n (pc' := 33) dX1_bestOfNext_32 rfl rfl ?_
    refine wp_icmp_ge (pc' := 36) 89 dX1_bestOfNext_33 rfl (by decide) (fun h33 => ?_) (fun h33 => ?_)
    · refine wp_iload (pc' := 91) dX1_bestOfNext_89 rfl rfl ?_
      refine wp_ireti dX1_bestOfNext_91 rfl ?_
      exact absurd h33 (nI_ge (by omega) hs)
    · refine wp_iload_n (pc' := 37) dX1_bestOfNext_36 rfl rfl ?_
      refine wp_iload (pc' := 39) dX1_bestOfNext_37 rfl rfl ?_
      refine wp_cSI (μ' := mX6_has) (pc' := 42) dX1_bestOfNext_39 rfl mlX1_22 cfX6_has ⟨(Nat.le_of_ble_eq_true rfl), (Nat.le_of_ble_eq_true rfl)⟩ (sp_has) rfl rfl (Nat.le_of_ble_eq_true rfl) ?_
      refine wp_if_ne (pc' := 45) 83 dX1_bestOfNext_42 rfl (by decide) (fun h42 => ?_) (fun h42 => ?_)
      · refine wp_inc5 (pc' := 86) (nI (j + 1)) dX1_bestOfNext_83 rfl (by decide) rfl (nI_1 j) ?_
        refine wp_goto 30 dX1_bestOfNext_86 (by decide) ?_
        rw [bnF, if_neg h42]
        exact ih (j + 1) (by omega) _ _
      · refine wp_aload_n (pc' := 46) dX1_bestOfNext_45 rfl rfl ⟨_, rfl⟩ ?_
        refine wp_get (pc' := 49) (o := 10) dX1_bestOfNext_46 rfl flX1_18 (by decide) rfl rfl ?_
        refine wp_iload_n (pc' := 50) dX1_bestOfNext_49 rfl rfl ?_
        refine wp_iconst (pc' := 51) 1 dX1_bestOfNext_50 rfl (by decide) ?_
        refine wp_iload (pc' := 53) dX1_bestOfNext_51 rfl rfl ?_
        refine wp_ishl (pc' := 54) dX1_bestOfNext_53 rfl ?_
        refine wp_ior (pc' := 55) dX1_bestOfNext_54 rfl ?_
        refine wp_cSI (μ' := mX6_at) (pc' := 58) dX1_bestOfNext_55 rfl mlX1_54 cfX6_at ⟨(Nat.le_of_ble_eq_true rfl), (Nat.le_of_ble_eq_true rfl)⟩ (sp_at arr12) rfl rfl (Nat.le_of_ble_eq_true rfl) ?_
        refine wp_ist6 (pc' := 60) dX1_bestOfNext_58 rfl (by decide) rfl ?_
        refine wp_iload_n (pc' := 61) dX1_bestOfNext_60 rfl rfl ?_
        refine wp_if_eq (pc' := 64) 74 dX1_bestOfNext_61 rfl (by decide) (fun h61 => ?_) (fun h61 => ?_)
        · refine wp_iload (pc' := 76) dX1_bestOfNext_74 rfl rfl ?_
          refine wp_iload (pc' := 78) dX1_bestOfNext_76 rfl rfl ?_
          refine wp_mmax (pc' := 81) dX1_bestOfNext_78 rfl mlX1_63 (Nat.le_of_ble_eq_true rfl) (Nat.le_of_ble_eq_true rfl) ?_
          refine wp_ist4 (pc' := 83) dX1_bestOfNext_81 rfl (by decide) rfl ?_
          refine wp_inc5 (pc' := 86) (nI (j + 1)) dX1_bestOfNext_83 rfl (by decide) rfl (nI_1 j) ?_
          refine wp_goto 30 dX1_bestOfNext_86 (by decide) ?_
          rw [bnF, if_pos h42, if_pos h61]
          exact ih (j + 1) (by omega) _ _
        · refine wp_iload (pc' := 66) dX1_bestOfNext_64 rfl rfl ?_
          refine wp_iload (pc' := 68) dX1_bestOfNext_66 rfl rfl ?_
          refine wp_mmin (pc' := 71) dX1_bestOfNext_68 rfl mlX1_58 (Nat.le_of_ble_eq_true rfl) (Nat.le_of_ble_eq_true rfl) ?_
          refine wp_goto 81 dX1_bestOfNext_71 (by decide) ?_
          refine wp_ist4 (pc' := 83) dX1_bestOfNext_81 rfl (by decide) rfl ?_
          refine wp_inc5 (pc' := 86) (nI (j + 1)) dX1_bestOfNext_83 rfl (by decide) rfl (nI_1 j) ?_
          refine wp_goto 30 dX1_bestOfNext_86 (by decide) ?_
          rw [bnF, if_pos h42, if_neg h61]
          exact ih (j + 1) (by omega) _ _
theorem sp_bestOfNext {g : GG} {M : Mem} {i : Int32} {s : Nat} (hs : s < 2 ^ 31) : RI g mX1_bestOfNext [ob g 10, .int i, .int (nI s)] M (bnF M i (soonF i) s 0 (if soonF i = 0 then 0 else 24)) M := by
  refine spec_of_wp (ls := [some (ob g 10), some (.int i), some (.int (nI s)), none, none, none, none]) rfl (Nat.le_of_ble_eq_true rfl) 4 rfl ?_
  refine wp_iload_n (pc' := 1) dX1_bestOfNext_0 rfl rfl ?_
  refine wp_cSI (μ' := mJ6_bitCount_0f7a4) (pc' := 4) dX1_bestOfNext_1 rfl mlX1_30 cfJ6_bitCount_0f7a4 ⟨(Nat.le_of_ble_eq_true rfl), (Nat.le_of_ble_eq_true rfl)⟩ (sp_bitCount) rfl rfl (Nat.le_of_ble_eq_true rfl) ?_
  refine wp_iconst (pc' := 5) 2 dX1_bestOfNext_4 rfl (by decide) ?_
  refine wp_irem (pc' := 6) dX1_bestOfNext_5 rfl (by decide) ?_
  refine wp_if_ne (pc' := 9) 13 dX1_bestOfNext_6 rfl (by decide) (fun h6 => ?_) (fun h6 => ?_)
  · refine wp_iconst (pc' := 14) 0 dX1_bestOfNext_13 rfl (by decide) ?_
    refine wp_ist3 (pc' := 15) dX1_bestOfNext_14 rfl (by decide) rfl ?_
    refine wp_iload_n (pc' := 16) dX1_bestOfNext_15 rfl rfl ?_
    refine wp_if_eq (pc' := 19) 24 dX1_bestOfNext_16 rfl (by decide) (fun _ => ?_) (fun hh => absurd hh (by decide))
    refine wp_iconst (pc' := 25) 0 dX1_bestOfNext_24 rfl (by decide) ?_
    refine wp_ist4 (pc' := 27) dX1_bestOfNext_25 rfl (by decide) rfl ?_
    refine wp_iconst (pc' := 28) 0 dX1_bestOfNext_27 rfl (by decide) ?_
    refine wp_ist5 (pc' := 30) dX1_bestOfNext_28 rfl (by decide) rfl ?_
    rw [show soonF i = 0 from if_neg h6, if_pos rfl]
    exact lp_bestOfNext hs s 0 (Nat.zero_add s) _ _
  · refine wp_iconst (pc' := 10) 1 dX1_bestOfNext_9 rfl (by decide) ?_
    refine wp_goto 14 dX1_bestOfNext_10 (by decide) ?_
    refine wp_ist3 (pc' := 15) dX1_bestOfNext_14 rfl (by decide) rfl ?_
    refine wp_iload_n (pc' := 16) dX1_bestOfNext_15 rfl rfl ?_
    refine wp_if_eq (pc' := 19) 24 dX1_bestOfNext_16 rfl (by decide) (fun hh => absurd hh (by decide)) (fun _ => ?_)
    refine wp_bipush (pc' := 21) 24 dX1_bestOfNext_19 rfl (by decide) ?_
    refine wp_goto 25 dX1_bestOfNext_21 (by decide) ?_
    refine wp_ist4 (pc' := 27) dX1_bestOfNext_25 rfl (by decide) rfl ?_
    refine wp_iconst (pc' := 28) 0 dX1_bestOfNext_27 rfl (by decide) ?_
    refine wp_ist5 (pc' := 30) dX1_bestOfNext_28 rfl (by decide) rfl ?_
    rw [show soonF i = 1 from if_pos h6, if_neg (by decide)]
    exact lp_bestOfNext hs s 0 (Nat.zero_add s) _ _

def ltV (M : Mem) (nr : Int32 → Int32) (a b bear : Int32) (s n : Nat) (part : Int32) : Int32 := if joF nr a b (bear ||| part) = 0 then 1 + bnF M (nI n) (soonF (nI n)) s 0 (if soonF (nI n) = 0 then 0 else 24) else 0
def ltM (nr : Int32 → Int32) (a b bear bog : Int32) (s : Nat) : Nat → Int32 → Mem → Mem
  | 0, _, M => M
  | n + 1, part, M => ltM nr a b bear bog s n ((part - 1) &&& bog) (putM M 12 256 (nI n) (ltV M nr a b bear s n part))
theorem nearM_put (M : Mem) (i x : Int32) : nearM (putM M 12 256 i x) = nearM M := by
  funext y
  unfold nearM
  rw [putM_ne _ _ _ _ _ (by decide)]

theorem dec1 (x : Int32) : x + Int32.ofInt (-1) = x - 1 := by
  rw [Int32.sub_eq_add_neg]
  rfl
theorem lp_laidByTurns {g : GG} {nr : Int32 → Int32} {a b bear bog : Int32} {s : Nat} (hs : s < 2 ^ 31) : ∀ (n : Nat), n < 2 ^ 31 → ∀ (M : Mem) (part x : Int32) (x8 : Option Value), nearM M = nr → x = nI n - 1 → wp g mX1_laidByTurns 19 [some (ob g 10), some (.int a), some (.int b), some (.int bear), some (.int bog), some (.int (nI s)), some (.int part), some (.int x), x8] [] M (fun q m => q = some (.int (atF 256 ((ltM nr a b bear bog s n part M).1 12) 0)) ∧ m = ltM nr a b bear bog s n part M) := by
  intro n
  induction n with
  | zero =>
    intro hn M part x x8 hM hx
    obtain rfl : x = -1 := hx
    refine wp_iload (pc' := 21) dX1_laidByTurns_19 rfl rfl ?_
    refine wp_if_lt (pc' := 24) 82 dX1_laidByTurns_21 rfl (by decide) (fun _ => ?_) (fun hh => absurd hh (by decide))
    refine wp_aload_n (pc' := 83) dX1_laidByTurns_82 rfl rfl ⟨_, rfl⟩ ?_
    refine wp_get (pc' := 86) (o := 10) dX1_laidByTurns_83 rfl flX1_18 (by decide) rfl rfl ?_
    refine wp_iconst (pc' := 87) 0 dX1_laidByTurns_86 rfl (by decide) ?_
    refine wp_cSI (μ' := mX6_at) (pc' := 90) dX1_laidByTurns_87 rfl mlX1_54 cfX6_at ⟨(Nat.le_of_ble_eq_true rfl), (Nat.le_of_ble_eq_true rfl)⟩ (sp_at arr12) rfl rfl (Nat.le_of_ble_eq_true rfl) ?_
    refine wp_ireti dX1_laidByTurns_90 rfl ?_
    exact ri_ok rfl rfl
  | succ n ih =>
    intro hn M part x x8 hM hx
    rw [nI_pred] at hx
    subst hx
    subst hM
    refine wp_iload (pc' := 21) dX1_laidByTurns_19 rfl rfl ?_
    refine wp_if_lt (pc' := 24) 82 dX1_laidByTurns_21 rfl (by decide) (fun h21 => ?_) (fun h21 => ?_)
    · exact absurd h21 (nI_pos (by omega))
    · refine wp_aload_n (pc' := 25) dX1_laidByTurns_24 rfl rfl ⟨_, rfl⟩ ?_
      refine wp_get (pc' := 28) (o := 10) dX1_laidByTurns_25 rfl flX1_12 (by decide) rfl rfl ?_
      refine wp_iload_n (pc' := 29) dX1_laidByTurns_28 rfl rfl ?_
      refine wp_iload_n (pc' := 30) dX1_laidByTurns_29 rfl rfl ?_
      refine wp_iload_n (pc' := 31) dX1_laidByTurns_30 rfl rfl ?_
      refine wp_iload (pc' := 33) dX1_laidByTurns_31 rfl rfl ?_
      refine wp_ior (pc' := 34) dX1_laidByTurns_33 rfl ?_
      refine wp_cVI (μ' := mX5_joins) (pc' := 37) (o := 11) dX1_laidByTurns_34 rfl mlX1_43 cfX5_joins ⟨(Nat.le_of_ble_eq_true rfl), (Nat.le_of_ble_eq_true rfl)⟩ (sp_joins) (by decide) rfl rfl rfl rfl rfl (Nat.le_of_ble_eq_true rfl) ?_
      refine wp_ist8 (pc' := 39) dX1_laidByTurns_37 rfl (by decide) rfl ?_
      refine wp_aload_n (pc' := 40) dX1_laidByTurns_39 rfl rfl ⟨_, rfl⟩ ?_
      refine wp_get (pc' := 43) (o := 10) dX1_laidByTurns_40 rfl flX1_18 (by decide) rfl rfl ?_
      refine wp_iload (pc' := 45) dX1_laidByTurns_43 rfl rfl ?_
      refine wp_iload (pc' := 47) dX1_laidByTurns_45 rfl rfl ?_
      refine wp_if_eq (pc' := 50) 54 dX1_laidByTurns_47 rfl (by decide) (fun h47 => ?_) (fun h47 => ?_)
      · refine wp_iconst (pc' := 55) 1 dX1_laidByTurns_54 rfl (by decide) ?_
        refine wp_aload_n (pc' := 56) dX1_laidByTurns_55 rfl rfl ⟨_, rfl⟩ ?_
        refine wp_iload (pc' := 58) dX1_laidByTurns_56 rfl rfl ?_
        refine wp_iload (pc' := 60) dX1_laidByTurns_58 rfl rfl ?_
        refine wp_cVI (μ' := mX1_bestOfNext) (pc' := 63) (o := 10) dX1_laidByTurns_60 rfl mlX1_47 cfX1_bestOfNext ⟨(Nat.le_of_ble_eq_true rfl), (Nat.le_of_ble_eq_true rfl)⟩ (sp_bestOfNext hs) (by decide) rfl rfl rfl rfl rfl (Nat.le_of_ble_eq_true rfl) ?_
        refine wp_iadd (pc' := 64) dX1_laidByTurns_63 rfl ?_
        refine wp_cSV (μ' := mX6_put) (pc' := 67) dX1_laidByTurns_64 rfl mlX1_50 cfX6_put ⟨(Nat.le_of_ble_eq_true rfl), (Nat.le_of_ble_eq_true rfl)⟩ (sp_put arr12) rfl rfl (Nat.le_of_ble_eq_true rfl) ?_
        refine wp_iload (pc' := 69) dX1_laidByTurns_67 rfl rfl ?_
        refine wp_iconst (pc' := 70) 1 dX1_laidByTurns_69 rfl (by decide) ?_
        refine wp_isub (pc' := 71) dX1_laidByTurns_70 rfl ?_
        refine wp_iload (pc' := 73) dX1_laidByTurns_71 rfl rfl ?_
        refine wp_iand (pc' := 74) dX1_laidByTurns_73 rfl ?_
        refine wp_ist6 (pc' := 76) dX1_laidByTurns_74 rfl (by decide) rfl ?_
        refine wp_inc7 (pc' := 79) (nI n - 1) dX1_laidByTurns_76 rfl (by decide) rfl (dec1 (nI n)) ?_
        refine wp_goto 19 dX1_laidByTurns_79 (by decide) ?_
        have e : ltV M (nearM M) a b bear s n part = _ := if_pos h47
        rw [ltM, e]
        exact ih (by omega) _ _ _ _ (nearM_put _ _ _) rfl
      · refine wp_iconst (pc' := 51) 0 dX1_laidByTurns_50 rfl (by decide) ?_
        refine wp_goto 64 dX1_laidByTurns_51 (by decide) ?_
        refine wp_cSV (μ' := mX6_put) (pc' := 67) dX1_laidByTurns_64 rfl mlX1_50 cfX6_put ⟨(Nat.le_of_ble_eq_true rfl), (Nat.le_of_ble_eq_true rfl)⟩ (sp_put arr12) rfl rfl (Nat.le_of_ble_eq_true rfl) ?_
        refine wp_iload (pc' := 69) dX1_laidByTurns_67 rfl rfl ?_
        refine wp_iconst (pc' := 70) 1 dX1_laidByTurns_69 rfl (by decide) ?_
        refine wp_isub (pc' := 71) dX1_laidByTurns_70 rfl ?_
        refine wp_iload (pc' := 73) dX1_laidByTurns_71 rfl rfl ?_
        refine wp_iand (pc' := 74) dX1_laidByTurns_73 rfl ?_
        refine wp_ist6 (pc' := 76) dX1_laidByTurns_74 rfl (by decide) rfl ?_
        refine wp_inc7 (pc' := 79) (nI n - 1) dX1_laidByTurns_76 rfl (by decide) rfl (dec1 (nI n)) ?_
        refine wp_goto 19 dX1_laidByTurns_79 (by decide) ?_
        have e : ltV M (nearM M) a b bear s n part = _ := if_neg h47
        rw [ltM, e]
        exact ih (by omega) _ _ _ _ (nearM_put _ _ _) rfl
theorem sp_laidByTurns {g : GG} {M : Mem} {a b bear bog : Int32} {s n : Nat} (hs : s < 2 ^ 31) (hn : n < 2 ^ 31) (he : pcF bog = nI s) (hf : shl 1 (nI s) = nI n) : RI g mX1_laidByTurns [ob g 10, .int a, .int b, .int bear, .int bog] M (atF 256 ((ltM (nearM M) a b bear bog s n bog M).1 12) 0) (ltM (nearM M) a b bear bog s n bog M) := by
  refine spec_of_wp (ls := [some (ob g 10), some (.int a), some (.int b), some (.int bear), some (.int bog), none, none, none, none]) rfl (Nat.le_of_ble_eq_true rfl) 4 rfl ?_
  refine wp_iload (pc' := 2) dX1_laidByTurns_0 rfl rfl ?_
  refine wp_cSI (μ' := mJ6_bitCount_0f7a4) (pc' := 5) dX1_laidByTurns_2 rfl mlX1_30 cfJ6_bitCount_0f7a4 ⟨(Nat.le_of_ble_eq_true rfl), (Nat.le_of_ble_eq_true rfl)⟩ (sp_bitCount) rfl rfl (Nat.le_of_ble_eq_true rfl) ?_
  refine wp_ist5 (pc' := 7) dX1_laidByTurns_5 rfl (by decide) rfl ?_
  refine wp_iload (pc' := 9) dX1_laidByTurns_7 rfl rfl ?_
  refine wp_ist6 (pc' := 11) dX1_laidByTurns_9 rfl (by decide) rfl ?_
  refine wp_iconst (pc' := 12) 1 dX1_laidByTurns_11 rfl (by decide) ?_
  refine wp_iload (pc' := 14) dX1_laidByTurns_12 rfl rfl ?_
  refine wp_ishl (pc' := 15) dX1_laidByTurns_14 rfl ?_
  refine wp_iconst (pc' := 16) 1 dX1_laidByTurns_15 rfl (by decide) ?_
  refine wp_isub (pc' := 17) dX1_laidByTurns_16 rfl ?_
  refine wp_ist7 (pc' := 19) dX1_laidByTurns_17 rfl (by decide) rfl ?_
  rw [he, hf]
  exact lp_laidByTurns hs n hn M _ _ _ rfl rfl

def faF (nr : Int32 → Int32) (a b others ends : Int32) : Nat → Int32 → Int32 → Int32
  | 0, _, few => few
  | n + 1, part, few => if few ≤ pcF part ∨ ¬ joF nr a b (ends ||| (others &&& (part ^^^ (-1)))) = 0 then faF nr a b others ends n ((part - others) &&& others) few else faF nr a b others ends n ((part - others) &&& others) (pcF part)

theorem lp_fewestApart {g : GG} {M : Mem} {a b others ends : Int32} {s : Nat} (hs : s < 2 ^ 31) : ∀ (n j : Nat), j + n = s → ∀ (few part : Int32), wp g mX1_fewestApart 40 [some (ob g 10), some (.int a), some (.int b), some (.int others), some (.int (nI s)), some (.int few), some (.int ends), some (.int part), some (.int (nI j))] [] M (fun q m => q = some (.int (faF (nearM M) a b others ends n part few)) ∧ m = M) := by
  intro n
  induction n with
  | zero =>
    intro j hj few part
    obtain rfl : j = s := by omega
    refine wp_iload (pc' := 42) dX1_fewestApart_40 rfl rfl ?_
    refine wp_iload (pc' := 44) dX1_fewestApart_42 rfl rfl ?_
    refine wp_icmp_ge (pc' := 47) 99 dX1_fewestApart_44 rfl (by decide) (fun h44 => ?_) (fun h44 => ?_)
    · refine wp_iload (pc' := 101) dX1_fewestApart_99 rfl rfl ?_
      refine wp_ireti dX1_fewestApart_101 rfl ?_
      exact ri_ok rfl rfl
    · exact absurd (nI_le (Nat.le_refl j) hs) h44
  | succ n ih =>
    intro j hj few part
    refine wp_iload (pc' := 42) dX1_fewestApart_40 rfl rfl ?_
    refine wp_iload (pc' := 44) dX1_fewestApart_42 rfl rfl ?_
    refine wp_icmp_ge (pc' := 47) 99 dX1_fewestApart_44 rfl (by decide) (fun h44 => ?_) (fun h44 => ?_)
    · refine wp_iload (pc' := 101) dX1_fewestApart_99 rfl rfl ?_
      refine wp_ireti dX1_fewestApart_101 rfl ?_
      exact absurd h44 (nI_ge (by omega) hs)
    · refine wp_iload (pc' := 49) dX1_fewestApart_47 rfl rfl ?_
      refine wp_cSI (μ' := mJ6_bitCount_0f7a4) (pc' := 52) dX1_fewestApart_49 rfl mlX1_30 cfJ6_bitCount_0f7a4 ⟨(Nat.le_of_ble_eq_true rfl), (Nat.le_of_ble_eq_true rfl)⟩ (sp_bitCount) rfl rfl (Nat.le_of_ble_eq_true rfl) ?_
      refine wp_iload (pc' := 54) dX1_fewestApart_52 rfl rfl ?_
      refine wp_icmp_ge (pc' := 57) 85 dX1_fewestApart_54 rfl (by decide) (fun h54 => ?_) (fun h54 => ?_)
      · refine wp_iload (pc' := 87) dX1_fewestApart_85 rfl rfl ?_
        refine wp_iload_n (pc' := 88) dX1_fewestApart_87 rfl rfl ?_
        refine wp_isub (pc' := 89) dX1_fewestApart_88 rfl ?_
        refine wp_iload_n (pc' := 90) dX1_fewestApart_89 rfl rfl ?_
        refine wp_iand (pc' := 91) dX1_fewestApart_90 rfl ?_
        refine wp_ist7 (pc' := 93) dX1_fewestApart_91 rfl (by decide) rfl ?_
        refine wp_inc8 (pc' := 96) (nI (j + 1)) dX1_fewestApart_93 rfl (by decide) rfl (nI_1 j) ?_
        refine wp_goto 40 dX1_fewestApart_96 (by decide) ?_
        rw [faF, if_pos (Or.inl h54)]
        exact ih (j + 1) (by omega) _ _
      · refine wp_aload_n (pc' := 58) dX1_fewestApart_57 rfl rfl ⟨_, rfl⟩ ?_
        refine wp_get (pc' := 61) (o := 10) dX1_fewestApart_58 rfl flX1_12 (by decide) rfl rfl ?_
        refine wp_iload_n (pc' := 62) dX1_fewestApart_61 rfl rfl ?_
        refine wp_iload_n (pc' := 63) dX1_fewestApart_62 rfl rfl ?_
        refine wp_iload (pc' := 65) dX1_fewestApart_63 rfl rfl ?_
        refine wp_iload_n (pc' := 66) dX1_fewestApart_65 rfl rfl ?_
        refine wp_iload (pc' := 68) dX1_fewestApart_66 rfl rfl ?_
        refine wp_iconst (pc' := 69) (-1) dX1_fewestApart_68 rfl (by decide) ?_
        refine wp_ixor (pc' := 70) dX1_fewestApart_69 rfl ?_
        refine wp_iand (pc' := 71) dX1_fewestApart_70 rfl ?_
        refine wp_ior (pc' := 72) dX1_fewestApart_71 rfl ?_
        refine wp_cVI (μ' := mX5_joins) (pc' := 75) (o := 11) dX1_fewestApart_72 rfl mlX1_43 cfX5_joins ⟨(Nat.le_of_ble_eq_true rfl), (Nat.le_of_ble_eq_true rfl)⟩ (sp_joins) (by decide) rfl rfl rfl rfl rfl (Nat.le_of_ble_eq_true rfl) ?_
        refine wp_if_ne (pc' := 78) 85 dX1_fewestApart_75 rfl (by decide) (fun h75 => ?_) (fun h75 => ?_)
        · refine wp_iload (pc' := 87) dX1_fewestApart_85 rfl rfl ?_
          refine wp_iload_n (pc' := 88) dX1_fewestApart_87 rfl rfl ?_
          refine wp_isub (pc' := 89) dX1_fewestApart_88 rfl ?_
          refine wp_iload_n (pc' := 90) dX1_fewestApart_89 rfl rfl ?_
          refine wp_iand (pc' := 91) dX1_fewestApart_90 rfl ?_
          refine wp_ist7 (pc' := 93) dX1_fewestApart_91 rfl (by decide) rfl ?_
          refine wp_inc8 (pc' := 96) (nI (j + 1)) dX1_fewestApart_93 rfl (by decide) rfl (nI_1 j) ?_
          refine wp_goto 40 dX1_fewestApart_96 (by decide) ?_
          rw [faF, if_pos (Or.inr h75)]
          exact ih (j + 1) (by omega) _ _
        · refine wp_iload (pc' := 80) dX1_fewestApart_78 rfl rfl ?_
          refine wp_cSI (μ' := mJ6_bitCount_0f7a4) (pc' := 83) dX1_fewestApart_80 rfl mlX1_30 cfJ6_bitCount_0f7a4 ⟨(Nat.le_of_ble_eq_true rfl), (Nat.le_of_ble_eq_true rfl)⟩ (sp_bitCount) rfl rfl (Nat.le_of_ble_eq_true rfl) ?_
          refine wp_ist5 (pc' := 85) dX1_fewestApart_83 rfl (by decide) rfl ?_
          refine wp_iload (pc' := 87) dX1_fewestApart_85 rfl rfl ?_
          refine wp_iload_n (pc' := 88) dX1_fewestApart_87 rfl rfl ?_
          refine wp_isub (pc' := 89) dX1_fewestApart_88 rfl ?_
          refine wp_iload_n (pc' := 90) dX1_fewestApart_89 rfl rfl ?_
          refine wp_iand (pc' := 91) dX1_fewestApart_90 rfl ?_
          refine wp_ist7 (pc' := 93) dX1_fewestApart_91 rfl (by decide) rfl ?_
          refine wp_inc8 (pc' := 96) (nI (j + 1)) dX1_fewestApart_93 rfl (by decide) rfl (nI_1 j) ?_
          refine wp_goto 40 dX1_fewestApart_96 (by decide) ?_
          rw [faF, if_neg (fun h => h.elim h54 (fun h => h h75))]
          exact ih (j + 1) (by omega) _ _
theorem sp_fewestApart {g : GG} {M : Mem} {a b others : Int32} {s : Nat} (hs : s < 2 ^ 31) (he : shl 1 (pcF others) = nI s) : RI g mX1_fewestApart [ob g 10, .int a, .int b, .int others] M (faF (nearM M) a b others (shl 1 a ||| shl 1 b) s 0 (pcF (nearM M (shl 1 a) &&& others))) M := by
  refine spec_of_wp (ls := [some (ob g 10), some (.int a), some (.int b), some (.int others), none, none, none, none, none]) rfl (Nat.le_of_ble_eq_true rfl) 5 rfl ?_
  refine wp_iconst (pc' := 1) 1 dX1_fewestApart_0 rfl (by decide) ?_
  refine wp_iload_n (pc' := 2) dX1_fewestApart_1 rfl rfl ?_
  refine wp_cSI (μ' := mJ6_bitCount_0f7a4) (pc' := 5) dX1_fewestApart_2 rfl mlX1_30 cfJ6_bitCount_0f7a4 ⟨(Nat.le_of_ble_eq_true rfl), (Nat.le_of_ble_eq_true rfl)⟩ (sp_bitCount) rfl rfl (Nat.le_of_ble_eq_true rfl) ?_
  refine wp_ishl (pc' := 6) dX1_fewestApart_5 rfl ?_
  refine wp_ist4 (pc' := 8) dX1_fewestApart_6 rfl (by decide) rfl ?_
  refine wp_aload_n (pc' := 9) dX1_fewestApart_8 rfl rfl ⟨_, rfl⟩ ?_
  refine wp_get (pc' := 12) (o := 10) dX1_fewestApart_9 rfl flX1_12 (by decide) rfl rfl ?_
  refine wp_iconst (pc' := 13) 1 dX1_fewestApart_12 rfl (by decide) ?_
  refine wp_iload_n (pc' := 14) dX1_fewestApart_13 rfl rfl ?_
  refine wp_ishl (pc' := 15) dX1_fewestApart_14 rfl ?_
  refine wp_cVI (μ' := mX5_near) (pc' := 18) (o := 11) dX1_fewestApart_15 rfl mlX1_66 cfX5_near ⟨(Nat.le_of_ble_eq_true rfl), (Nat.le_of_ble_eq_true rfl)⟩ (sp_near) (by decide) rfl rfl rfl rfl rfl (Nat.le_of_ble_eq_true rfl) ?_
  refine wp_iload_n (pc' := 19) dX1_fewestApart_18 rfl rfl ?_
  refine wp_iand (pc' := 20) dX1_fewestApart_19 rfl ?_
  refine wp_cSI (μ' := mJ6_bitCount_0f7a4) (pc' := 23) dX1_fewestApart_20 rfl mlX1_30 cfJ6_bitCount_0f7a4 ⟨(Nat.le_of_ble_eq_true rfl), (Nat.le_of_ble_eq_true rfl)⟩ (sp_bitCount) rfl rfl (Nat.le_of_ble_eq_true rfl) ?_
  refine wp_ist5 (pc' := 25) dX1_fewestApart_23 rfl (by decide) rfl ?_
  refine wp_iconst (pc' := 26) 1 dX1_fewestApart_25 rfl (by decide) ?_
  refine wp_iload_n (pc' := 27) dX1_fewestApart_26 rfl rfl ?_
  refine wp_ishl (pc' := 28) dX1_fewestApart_27 rfl ?_
  refine wp_iconst (pc' := 29) 1 dX1_fewestApart_28 rfl (by decide) ?_
  refine wp_iload_n (pc' := 30) dX1_fewestApart_29 rfl rfl ?_
  refine wp_ishl (pc' := 31) dX1_fewestApart_30 rfl ?_
  refine wp_ior (pc' := 32) dX1_fewestApart_31 rfl ?_
  refine wp_ist6 (pc' := 34) dX1_fewestApart_32 rfl (by decide) rfl ?_
  refine wp_iconst (pc' := 35) 0 dX1_fewestApart_34 rfl (by decide) ?_
  refine wp_ist7 (pc' := 37) dX1_fewestApart_35 rfl (by decide) rfl ?_
  refine wp_iconst (pc' := 38) 0 dX1_fewestApart_37 rfl (by decide) ?_
  refine wp_ist8 (pc' := 40) dX1_fewestApart_38 rfl (by decide) rfl ?_
  rw [he]
  exact lp_fewestApart hs s 0 (Nat.zero_add s) _ _
end
section
/-! MoorStones, the public methods but moor -/
theorem tsw_4 (x : Int32) : x = 0 ∨ x = 1 ∨ x = 2 ∨ x = 3 ∨ (x.toInt < 0 ∨ 3 < x.toInt) := by
  by_cases h : x.toInt < 0 ∨ 3 < x.toInt
  · simp [h]
  · have : x.toInt = 0 ∨ x.toInt = 1 ∨ x.toInt = 2 ∨ x.toInt = 3 := by omega
    rcases this with h | h | h | h
    · have e : x = 0 := Int32.toInt_inj.mp h
      simp [e]
    · have e : x = 1 := Int32.toInt_inj.mp h
      simp [e]
    · have e : x = 2 := Int32.toInt_inj.mp h
      simp [e]
    · have e : x = 3 := Int32.toInt_inj.mp h
      simp [e]
theorem tsw_5 (x : Int32) : x = 0 ∨ x = 1 ∨ x = 2 ∨ x = 3 ∨ x = 4 ∨ (x.toInt < 0 ∨ 4 < x.toInt) := by
  by_cases h : x.toInt < 0 ∨ 4 < x.toInt
  · simp [h]
  · have : x.toInt = 0 ∨ x.toInt = 1 ∨ x.toInt = 2 ∨ x.toInt = 3 ∨ x.toInt = 4 := by omega
    rcases this with h | h | h | h | h
    · have e : x = 0 := Int32.toInt_inj.mp h
      simp [e]
    · have e : x = 1 := Int32.toInt_inj.mp h
      simp [e]
    · have e : x = 2 := Int32.toInt_inj.mp h
      simp [e]
    · have e : x = 3 := Int32.toInt_inj.mp h
      simp [e]
    · have e : x = 4 := Int32.toInt_inj.mp h
      simp [e]
theorem tsw_6 (x : Int32) : x = 0 ∨ x = 1 ∨ x = 2 ∨ x = 3 ∨ x = 4 ∨ x = 5 ∨ (x.toInt < 0 ∨ 5 < x.toInt) := by
  by_cases h : x.toInt < 0 ∨ 5 < x.toInt
  · simp [h]
  · have : x.toInt = 0 ∨ x.toInt = 1 ∨ x.toInt = 2 ∨ x.toInt = 3 ∨ x.toInt = 4 ∨ x.toInt = 5 := by omega
    rcases this with h | h | h | h | h | h
    · have e : x = 0 := Int32.toInt_inj.mp h
      simp [e]
    · have e : x = 1 := Int32.toInt_inj.mp h
      simp [e]
    · have e : x = 2 := Int32.toInt_inj.mp h
      simp [e]
    · have e : x = 3 := Int32.toInt_inj.mp h
      simp [e]
    · have e : x = 4 := Int32.toInt_inj.mp h
      simp [e]
    · have e : x = 5 := Int32.toInt_inj.mp h
      simp [e]

theorem tsw_ne {x : Int32} {n : Int} (h : x.toInt < 0 ∨ n < x.toInt) (y : Int32) (hy : 0 ≤ y.toInt ∧ y.toInt ≤ n) : ¬ x = y := by
  rintro rfl
  omega
theorem nI_of1 {x : Int32} (h1 : ¬ x < 1) : ∃ k : Nat, k + 1 < 2 ^ 31 ∧ x = nI (k + 1) := by
  have h1' := Int32.not_lt.mp h1
  rw [Int32.le_iff_toInt_le] at h1'
  have h0 : ¬ x < 0 := by
    rw [Int32.not_lt, Int32.le_iff_toInt_le, Int32.toInt_zero]
    have : (1 : Int32).toInt = 1 := by decide
    omega
  obtain ⟨j, hj, rfl⟩ := nI_of h0
  rw [nI_toInt hj] at h1'
  have : (1 : Int32).toInt = 1 := by decide
  exact ⟨j - 1, by omega, by congr 1; omega⟩
def bOf (v : Int64) (n : Nat) : Int32 := ((v.toUInt64 >>> ((8 * nI n).toInt64.toUInt64 &&& Int64.toUInt64 63)).toInt64).toInt32 &&& 255
def tyM (v : Int64) : Nat → Mem → Mem
  | 0, M => M
  | n + 1, M => tyM v n (addM M (bOf v n))

theorem lp_type {g : GG} {v : Int64} : ∀ (n : Nat), n < 2 ^ 31 → ∀ (M : Mem) (x k : Int32), x = nI n - 1 → wp g mX6_type 36 [some (ob g 0), some (.long v), none, some (.int k), some (.int x)] [] M (fun q m => q = some (.int ((tyM v n M).1 2 1)) ∧ m = tyM v n M) := by
  intro n
  induction n with
  | zero =>
    intro hn M x k hx
    obtain rfl : x = -1 := hx
    refine wp_iload (pc' := 38) dX6_type_36 rfl rfl ?_
    refine wp_if_lt (pc' := 41) 66 dX6_type_38 rfl (by decide) (fun _ => ?_) (fun hh => absurd hh (by decide))
    refine wp_aload_n (pc' := 67) dX6_type_66 rfl rfl ⟨_, rfl⟩ ?_
    refine wp_get (pc' := 70) (o := 0) dX6_type_67 rfl flX6_20 (by decide) rfl rfl ?_
    refine wp_get (pc' := 73) (o := 2) dX6_type_70 rfl flX6_60 (by decide) rfl rfl ?_
    refine wp_ireti dX6_type_73 rfl ?_
    exact ri_ok rfl rfl
  | succ n ih =>
    intro hn M x k hx
    rw [nI_pred] at hx
    subst hx
    refine wp_iload (pc' := 38) dX6_type_36 rfl rfl ?_
    refine wp_if_lt (pc' := 41) 66 dX6_type_38 rfl (by decide) (fun h38 => ?_) (fun h38 => ?_)
    · exact absurd h38 (nI_pos (by omega))
    · refine wp_aload_n (pc' := 42) dX6_type_41 rfl rfl ⟨_, rfl⟩ ?_
      refine wp_get (pc' := 45) (o := 0) dX6_type_42 rfl flX6_20 (by decide) rfl rfl ?_
      refine wp_lload_n (pc' := 46) dX6_type_45 rfl rfl ?_
      refine wp_bipush (pc' := 48) 8 dX6_type_46 rfl (by decide) ?_
      refine wp_iload (pc' := 50) dX6_type_48 rfl rfl ?_
      refine wp_imul (pc' := 51) dX6_type_50 rfl ?_
      refine wp_lushr (pc' := 52) dX6_type_51 rfl ?_
      refine wp_l2i (pc' := 53) dX6_type_52 rfl ?_
      refine wp_sipush (pc' := 56) 255 dX6_type_53 rfl (by decide) ?_
      refine wp_iand (pc' := 57) dX6_type_56 rfl ?_
      refine wp_cVV (μ' := mX3_add) (pc' := 60) (o := 2) dX6_type_57 rfl mlX6_66 cfX3_add ⟨(Nat.le_of_ble_eq_true rfl), (Nat.le_of_ble_eq_true rfl)⟩ (sp_add) (by decide) rfl rfl rfl rfl rfl (Nat.le_of_ble_eq_true rfl) ?_
      refine wp_inc4 (pc' := 63) (nI n - 1) dX6_type_60 rfl (by decide) rfl (dec1 (nI n)) ?_
      refine wp_goto 36 dX6_type_63 (by decide) ?_
      exact ih (by omega) _ _ _ rfl
theorem sp_type_bad {g : GG} {M : Mem} {v : Int64} {k : Int32} (h : k < 1 ∨ 8 < k) : RI g mX6_type [ob g 0, .long v, .int k] M (-1) M := by
  refine spec_of_wp (ls := [some (ob g 0), some (.long v), none, some (.int k), none]) rfl (Nat.le_of_ble_eq_true rfl) 1 rfl ?_
  refine wp_iload_n (pc' := 1) dX6_type_0 rfl rfl ?_
  refine wp_iconst (pc' := 2) 1 dX6_type_1 rfl (by decide) ?_
  refine wp_icmp_lt (pc' := 5) 11 dX6_type_2 rfl (by decide) (fun h2 => ?_) (fun h2 => ?_)
  · refine wp_iconst (pc' := 12) (-1) dX6_type_11 rfl (by decide) ?_
    refine wp_ireti dX6_type_12 rfl ?_
    exact ri_ok rfl rfl
  · refine wp_iload_n (pc' := 6) dX6_type_5 rfl rfl ?_
    refine wp_bipush (pc' := 8) 8 dX6_type_6 rfl (by decide) ?_
    refine wp_icmp_le (pc' := 11) 13 dX6_type_8 rfl (by decide) (fun h8 => ?_) (fun h8 => ?_)
    · exact h.elim (fun h => absurd h h2) (fun h => absurd h8 (Int32.not_le.mpr h))
    · refine wp_iconst (pc' := 12) (-1) dX6_type_11 rfl (by decide) ?_
      refine wp_ireti dX6_type_12 rfl ?_
      exact ri_ok rfl rfl
theorem sp_type_full {g : GG} {M : Mem} {v : Int64} {k : Int32} (h1 : ¬ k < 1) (h2 : k ≤ 8) (h3 : ¬ M.1 2 1 + k ≤ 300) : RI g mX6_type [ob g 0, .long v, .int k] M (-3) M := by
  refine spec_of_wp (ls := [some (ob g 0), some (.long v), none, some (.int k), none]) rfl (Nat.le_of_ble_eq_true rfl) 1 rfl ?_
  refine wp_iload_n (pc' := 1) dX6_type_0 rfl rfl ?_
  refine wp_iconst (pc' := 2) 1 dX6_type_1 rfl (by decide) ?_
  refine wp_icmp_lt (pc' := 5) 11 dX6_type_2 rfl (by decide) (fun q2 => ?_) (fun q2 => ?_)
  · exact absurd q2 h1
  · refine wp_iload_n (pc' := 6) dX6_type_5 rfl rfl ?_
    refine wp_bipush (pc' := 8) 8 dX6_type_6 rfl (by decide) ?_
    refine wp_icmp_le (pc' := 11) 13 dX6_type_8 rfl (by decide) (fun q8 => ?_) (fun q8 => ?_)
    · refine wp_aload_n (pc' := 14) dX6_type_13 rfl rfl ⟨_, rfl⟩ ?_
      refine wp_get (pc' := 17) (o := 0) dX6_type_14 rfl flX6_20 (by decide) rfl rfl ?_
      refine wp_get (pc' := 20) (o := 2) dX6_type_17 rfl flX6_60 (by decide) rfl rfl ?_
      refine wp_iload_n (pc' := 21) dX6_type_20 rfl rfl ?_
      refine wp_iadd (pc' := 22) dX6_type_21 rfl ?_
      refine wp_sipush (pc' := 25) 300 dX6_type_22 rfl (by decide) ?_
      refine wp_icmp_le (pc' := 28) 31 dX6_type_25 rfl (by decide) (fun q25 => ?_) (fun q25 => ?_)
      · exact absurd q25 h3
      · refine wp_bipush (pc' := 30) (-3) dX6_type_28 rfl (by decide) ?_
        refine wp_ireti dX6_type_30 rfl ?_
        exact ri_ok rfl rfl
    · exact absurd h2 q8
theorem sp_type_ok {g : GG} {M : Mem} {v : Int64} {k : Nat} (hk : k < 2 ^ 31) (h1 : ¬ nI k < 1) (h2 : nI k ≤ 8) (h3 : M.1 2 1 + nI k ≤ 300) : RI g mX6_type [ob g 0, .long v, .int (nI k)] M ((tyM v k M).1 2 1) (tyM v k M) := by
  refine spec_of_wp (ls := [some (ob g 0), some (.long v), none, some (.int (nI k)), none]) rfl (Nat.le_of_ble_eq_true rfl) 1 rfl ?_
  refine wp_iload_n (pc' := 1) dX6_type_0 rfl rfl ?_
  refine wp_iconst (pc' := 2) 1 dX6_type_1 rfl (by decide) ?_
  refine wp_icmp_lt (pc' := 5) 11 dX6_type_2 rfl (by decide) (fun q2 => ?_) (fun q2 => ?_)
  · exact absurd q2 h1
  · refine wp_iload_n (pc' := 6) dX6_type_5 rfl rfl ?_
    refine wp_bipush (pc' := 8) 8 dX6_type_6 rfl (by decide) ?_
    refine wp_icmp_le (pc' := 11) 13 dX6_type_8 rfl (by decide) (fun q8 => ?_) (fun q8 => ?_)
    · refine wp_aload_n (pc' := 14) dX6_type_13 rfl rfl ⟨_, rfl⟩ ?_
      refine wp_get (pc' := 17) (o := 0) dX6_type_14 rfl flX6_20 (by decide) rfl rfl ?_
      refine wp_get (pc' := 20) (o := 2) dX6_type_17 rfl flX6_60 (by decide) rfl rfl ?_
      refine wp_iload_n (pc' := 21) dX6_type_20 rfl rfl ?_
      refine wp_iadd (pc' := 22) dX6_type_21 rfl ?_
      refine wp_sipush (pc' := 25) 300 dX6_type_22 rfl (by decide) ?_
      refine wp_icmp_le (pc' := 28) 31 dX6_type_25 rfl (by decide) (fun q25 => ?_) (fun q25 => ?_)
      · refine wp_iload_n (pc' := 32) dX6_type_31 rfl rfl ?_
        refine wp_iconst (pc' := 33) 1 dX6_type_32 rfl (by decide) ?_
        refine wp_isub (pc' := 34) dX6_type_33 rfl ?_
        refine wp_ist4 (pc' := 36) dX6_type_34 rfl (by decide) rfl ?_
        exact lp_type k hk _ _ _ rfl
      · exact absurd h3 q25
    · exact absurd h2 q8
theorem sp_clear {g : GG} {M : Mem} : RI g mX6_clear [ob g 0] M (M.1 2 1) (upI M 2 1 0) := by
  refine spec_of_wp (ls := [some (ob g 0)]) rfl (Nat.le_of_ble_eq_true rfl) 0 rfl ?_
  refine wp_aload_n (pc' := 1) dX6_clear_0 rfl rfl ⟨_, rfl⟩ ?_
  refine wp_get (pc' := 4) (o := 0) dX6_clear_1 rfl flX6_20 (by decide) rfl rfl ?_
  refine wp_cVI (μ' := mX3_empty) (pc' := 7) (o := 2) dX6_clear_4 rfl mlX6_70 cfX3_empty ⟨(Nat.le_of_ble_eq_true rfl), (Nat.le_of_ble_eq_true rfl)⟩ (sp_tempty) (by decide) rfl rfl rfl rfl rfl (Nat.le_of_ble_eq_true rfl) ?_
  refine wp_ireti dX6_clear_7 rfl ?_
  exact ri_ok rfl rfl
def cellV (M : Mem) (c what : Int32) : Int32 := if isCellF M c = 0 then -1 else if what = 0 then groundF M c else if what = 1 then atF 24 (M.1 14) c else if what = 2 then atF 24 (M.1 15) c else -1
theorem sp_cell {g : GG} {M : Mem} {c what : Int32} : RI g mX6_cell [ob g 0, .int c, .int what] M (cellV M c what) M := by
  refine spec_of_wp (ls := [some (ob g 0), some (.int c), some (.int what)]) rfl (Nat.le_of_ble_eq_true rfl) 0 rfl ?_
  refine wp_aload_n (pc' := 1) dX6_cell_0 rfl rfl ⟨_, rfl⟩ ?_
  refine wp_iload_n (pc' := 2) dX6_cell_1 rfl rfl ?_
  refine wp_cVI (μ' := mX6_isCell) (pc' := 5) (o := 0) dX6_cell_2 rfl mlX6_101 cfX6_isCell ⟨(Nat.le_of_ble_eq_true rfl), (Nat.le_of_ble_eq_true rfl)⟩ (sp_isCell) (by decide) rfl rfl rfl rfl rfl (Nat.le_of_ble_eq_true rfl) ?_
  refine wp_if_ne (pc' := 8) 10 dX6_cell_5 rfl (by decide) (fun h5 => ?_) (fun h5 => ?_)
  · refine wp_iload_n (pc' := 11) dX6_cell_10 rfl rfl ?_
    rcases tsw_3 what with rfl | rfl | rfl | h11
    · refine wp_tin (off := 25) 36 dX6_cell_11 (by decide) (by decide) (by decide) (by decide) ?_
      refine wp_aload_n (pc' := 37) dX6_cell_36 rfl rfl ⟨_, rfl⟩ ?_
      refine wp_get (pc' := 40) (o := 0) dX6_cell_37 rfl flX6_46 (by decide) rfl rfl ?_
      refine wp_iload_n (pc' := 41) dX6_cell_40 rfl rfl ?_
      refine wp_cVI (μ' := mX0_groundOf) (pc' := 44) (o := 13) dX6_cell_41 rfl mlX6_105 cfX0_groundOf ⟨(Nat.le_of_ble_eq_true rfl), (Nat.le_of_ble_eq_true rfl)⟩ (sp_groundOf) (by decide) rfl rfl rfl rfl rfl (Nat.le_of_ble_eq_true rfl) ?_
      refine wp_ireti dX6_cell_44 rfl ?_
      exact ri_ok (by rw [cellV, if_neg h5, if_pos rfl]) rfl
    · refine wp_tin (off := 34) 45 dX6_cell_11 (by decide) (by decide) (by decide) (by decide) ?_
      refine wp_aload_n (pc' := 46) dX6_cell_45 rfl rfl ⟨_, rfl⟩ ?_
      refine wp_get (pc' := 49) (o := 0) dX6_cell_46 rfl flX6_46 (by decide) rfl rfl ?_
      refine wp_get (pc' := 52) (o := 13) dX6_cell_49 rfl flX6_109 (by decide) rfl rfl ?_
      refine wp_iload_n (pc' := 53) dX6_cell_52 rfl rfl ?_
      refine wp_cSI (μ' := mX6_at) (pc' := 56) dX6_cell_53 rfl mlX6_113 cfX6_at ⟨(Nat.le_of_ble_eq_true rfl), (Nat.le_of_ble_eq_true rfl)⟩ (sp_at arr14) rfl rfl (Nat.le_of_ble_eq_true rfl) ?_
      refine wp_ireti dX6_cell_56 rfl ?_
      exact ri_ok (by rw [cellV, if_neg h5, if_neg (by decide), if_pos rfl]) rfl
    · refine wp_tin (off := 46) 57 dX6_cell_11 (by decide) (by decide) (by decide) (by decide) ?_
      refine wp_aload_n (pc' := 58) dX6_cell_57 rfl rfl ⟨_, rfl⟩ ?_
      refine wp_get (pc' := 61) (o := 0) dX6_cell_58 rfl flX6_46 (by decide) rfl rfl ?_
      refine wp_get (pc' := 64) (o := 13) dX6_cell_61 rfl flX6_117 (by decide) rfl rfl ?_
      refine wp_iload_n (pc' := 65) dX6_cell_64 rfl rfl ?_
      refine wp_cSI (μ' := mX6_at) (pc' := 68) dX6_cell_65 rfl mlX6_113 cfX6_at ⟨(Nat.le_of_ble_eq_true rfl), (Nat.le_of_ble_eq_true rfl)⟩ (sp_at arr15) rfl rfl (Nat.le_of_ble_eq_true rfl) ?_
      refine wp_ireti dX6_cell_68 rfl ?_
      exact ri_ok (by rw [cellV, if_neg h5, if_neg (by decide), if_neg (by decide), if_pos rfl]) rfl
    · refine wp_tout 69 dX6_cell_11 h11 (by decide) ?_
      refine wp_iconst (pc' := 70) (-1) dX6_cell_69 rfl (by decide) ?_
      refine wp_ireti dX6_cell_70 rfl ?_
      exact ri_ok (by rw [cellV, if_neg h5, if_neg (tsw_ne h11 0 (by decide)), if_neg (tsw_ne h11 1 (by decide)), if_neg (tsw_ne h11 2 (by decide))]) rfl
  · refine wp_iconst (pc' := 9) (-1) dX6_cell_8 rfl (by decide) ?_
    refine wp_ireti dX6_cell_9 rfl ?_
    exact ri_ok (by rw [cellV, if_pos h5]) rfl
def walkerV (M : Mem) (k what : Int32) : Int32 := if isWalkerF M k = 0 then -1 else if what = 0 then atF 4 (M.1 5) k else if what = 1 then atF 4 (M.1 6) k else if what = 2 then atF 4 (M.1 16) k else if what = 3 then lbF M k 24 0 0 else -1
theorem sp_walker {g : GG} {M : Mem} {k what : Int32} : RI g mX6_walker [ob g 0, .int k, .int what] M (walkerV M k what) M := by
  refine spec_of_wp (ls := [some (ob g 0), some (.int k), some (.int what)]) rfl (Nat.le_of_ble_eq_true rfl) 0 rfl ?_
  refine wp_aload_n (pc' := 1) dX6_walker_0 rfl rfl ⟨_, rfl⟩ ?_
  refine wp_iload_n (pc' := 2) dX6_walker_1 rfl rfl ?_
  refine wp_cVI (μ' := mX6_isWalker) (pc' := 5) (o := 0) dX6_walker_2 rfl mlX6_120 cfX6_isWalker ⟨(Nat.le_of_ble_eq_true rfl), (Nat.le_of_ble_eq_true rfl)⟩ (sp_isWalker) (by decide) rfl rfl rfl rfl rfl (Nat.le_of_ble_eq_true rfl) ?_
  refine wp_if_ne (pc' := 8) 10 dX6_walker_5 rfl (by decide) (fun h5 => ?_) (fun h5 => ?_)
  · refine wp_iload_n (pc' := 11) dX6_walker_10 rfl rfl ?_
    rcases tsw_4 what with rfl | rfl | rfl | rfl | h11
    · refine wp_tin (off := 29) 40 dX6_walker_11 (by decide) (by decide) (by decide) (by decide) ?_
      refine wp_aload_n (pc' := 41) dX6_walker_40 rfl rfl ⟨_, rfl⟩ ?_
      refine wp_get (pc' := 44) (o := 0) dX6_walker_41 rfl flX6_24 (by decide) rfl rfl ?_
      refine wp_get (pc' := 47) (o := 4) dX6_walker_44 rfl flX6_123 (by decide) rfl rfl ?_
      refine wp_iload_n (pc' := 48) dX6_walker_47 rfl rfl ?_
      refine wp_cSI (μ' := mX6_at) (pc' := 51) dX6_walker_48 rfl mlX6_113 cfX6_at ⟨(Nat.le_of_ble_eq_true rfl), (Nat.le_of_ble_eq_true rfl)⟩ (sp_at arr5) rfl rfl (Nat.le_of_ble_eq_true rfl) ?_
      refine wp_ireti dX6_walker_51 rfl ?_
      exact ri_ok (by rw [walkerV, if_neg h5, if_pos rfl]) rfl
    · refine wp_tin (off := 41) 52 dX6_walker_11 (by decide) (by decide) (by decide) (by decide) ?_
      refine wp_aload_n (pc' := 53) dX6_walker_52 rfl rfl ⟨_, rfl⟩ ?_
      refine wp_get (pc' := 56) (o := 0) dX6_walker_53 rfl flX6_24 (by decide) rfl rfl ?_
      refine wp_get (pc' := 59) (o := 4) dX6_walker_56 rfl flX6_126 (by decide) rfl rfl ?_
      refine wp_iload_n (pc' := 60) dX6_walker_59 rfl rfl ?_
      refine wp_cSI (μ' := mX6_at) (pc' := 63) dX6_walker_60 rfl mlX6_113 cfX6_at ⟨(Nat.le_of_ble_eq_true rfl), (Nat.le_of_ble_eq_true rfl)⟩ (sp_at arr6) rfl rfl (Nat.le_of_ble_eq_true rfl) ?_
      refine wp_ireti dX6_walker_63 rfl ?_
      exact ri_ok (by rw [walkerV, if_neg h5, if_neg (by decide), if_pos rfl]) rfl
    · refine wp_tin (off := 53) 64 dX6_walker_11 (by decide) (by decide) (by decide) (by decide) ?_
      refine wp_aload_n (pc' := 65) dX6_walker_64 rfl rfl ⟨_, rfl⟩ ?_
      refine wp_get (pc' := 68) (o := 0) dX6_walker_65 rfl flX6_46 (by decide) rfl rfl ?_
      refine wp_get (pc' := 71) (o := 13) dX6_walker_68 rfl flX6_129 (by decide) rfl rfl ?_
      refine wp_iload_n (pc' := 72) dX6_walker_71 rfl rfl ?_
      refine wp_cSI (μ' := mX6_at) (pc' := 75) dX6_walker_72 rfl mlX6_113 cfX6_at ⟨(Nat.le_of_ble_eq_true rfl), (Nat.le_of_ble_eq_true rfl)⟩ (sp_at arr16) rfl rfl (Nat.le_of_ble_eq_true rfl) ?_
      refine wp_ireti dX6_walker_75 rfl ?_
      exact ri_ok (by rw [walkerV, if_neg h5, if_neg (by decide), if_neg (by decide), if_pos rfl]) rfl
    · refine wp_tin (off := 65) 76 dX6_walker_11 (by decide) (by decide) (by decide) (by decide) ?_
      refine wp_aload_n (pc' := 77) dX6_walker_76 rfl rfl ⟨_, rfl⟩ ?_
      refine wp_get (pc' := 80) (o := 0) dX6_walker_77 rfl flX6_46 (by decide) rfl rfl ?_
      refine wp_iload_n (pc' := 81) dX6_walker_80 rfl rfl ?_
      refine wp_cVI (μ' := mX0_laidBy) (pc' := 84) (o := 13) dX6_walker_81 rfl mlX6_132 cfX0_laidBy ⟨(Nat.le_of_ble_eq_true rfl), (Nat.le_of_ble_eq_true rfl)⟩ (sp_laidBy) (by decide) rfl rfl rfl rfl rfl (Nat.le_of_ble_eq_true rfl) ?_
      refine wp_ireti dX6_walker_84 rfl ?_
      exact ri_ok (by rw [walkerV, if_neg h5, if_neg (by decide), if_neg (by decide), if_neg (by decide), if_pos rfl]) rfl
    · refine wp_tout 85 dX6_walker_11 h11 (by decide) ?_
      refine wp_iconst (pc' := 86) (-1) dX6_walker_85 rfl (by decide) ?_
      refine wp_ireti dX6_walker_86 rfl ?_
      exact ri_ok (by rw [walkerV, if_neg h5, if_neg (tsw_ne h11 0 (by decide)), if_neg (tsw_ne h11 1 (by decide)), if_neg (tsw_ne h11 2 (by decide)), if_neg (tsw_ne h11 3 (by decide))]) rfl
  · refine wp_iconst (pc' := 9) (-1) dX6_walker_8 rfl (by decide) ?_
    refine wp_ireti dX6_walker_9 rfl ?_
    exact ri_ok (by rw [walkerV, if_pos h5]) rfl
def nowV (M : Mem) (what : Int32) : Int32 := if what = 0 then pcF ((M.1 11 1 &&& (M.1 13 0 ^^^ (-1))) &&& (M.1 13 1 ^^^ (-1))) else if what = 1 then pcF (M.1 13 0) else if what = 2 then pcF (M.1 13 1) else if what = 3 then pbF M 4 0 0 else -1
theorem sp_now {g : GG} {M : Mem} {what : Int32} : RI g mX6_now [ob g 0, .int what] M (nowV M what) M := by
  refine spec_of_wp (ls := [some (ob g 0), some (.int what)]) rfl (Nat.le_of_ble_eq_true rfl) 0 rfl ?_
  refine wp_iload_n (pc' := 1) dX6_now_0 rfl rfl ?_
  rcases tsw_4 what with rfl | rfl | rfl | rfl | h1
  · refine wp_tin (off := 31) 32 dX6_now_1 (by decide) (by decide) (by decide) (by decide) ?_
    refine wp_aload_n (pc' := 33) dX6_now_32 rfl rfl ⟨_, rfl⟩ ?_
    refine wp_get (pc' := 36) (o := 0) dX6_now_33 rfl flX6_42 (by decide) rfl rfl ?_
    refine wp_get (pc' := 39) (o := 11) dX6_now_36 rfl flX6_155 (by decide) rfl rfl ?_
    refine wp_aload_n (pc' := 40) dX6_now_39 rfl rfl ⟨_, rfl⟩ ?_
    refine wp_get (pc' := 43) (o := 0) dX6_now_40 rfl flX6_46 (by decide) rfl rfl ?_
    refine wp_get (pc' := 46) (o := 13) dX6_now_43 rfl flX6_138 (by decide) rfl rfl ?_
    refine wp_iconst (pc' := 47) (-1) dX6_now_46 rfl (by decide) ?_
    refine wp_ixor (pc' := 48) dX6_now_47 rfl ?_
    refine wp_iand (pc' := 49) dX6_now_48 rfl ?_
    refine wp_aload_n (pc' := 50) dX6_now_49 rfl rfl ⟨_, rfl⟩ ?_
    refine wp_get (pc' := 53) (o := 0) dX6_now_50 rfl flX6_46 (by decide) rfl rfl ?_
    refine wp_get (pc' := 56) (o := 13) dX6_now_53 rfl flX6_158 (by decide) rfl rfl ?_
    refine wp_iconst (pc' := 57) (-1) dX6_now_56 rfl (by decide) ?_
    refine wp_ixor (pc' := 58) dX6_now_57 rfl ?_
    refine wp_iand (pc' := 59) dX6_now_58 rfl ?_
    refine wp_cSI (μ' := mJ6_bitCount_0f7a4) (pc' := 62) dX6_now_59 rfl mlX6_161 cfJ6_bitCount_0f7a4 ⟨(Nat.le_of_ble_eq_true rfl), (Nat.le_of_ble_eq_true rfl)⟩ (sp_bitCount) rfl rfl (Nat.le_of_ble_eq_true rfl) ?_
    refine wp_ireti dX6_now_62 rfl ?_
    exact ri_ok (by rw [nowV, if_pos rfl]) rfl
  · refine wp_tin (off := 62) 63 dX6_now_1 (by decide) (by decide) (by decide) (by decide) ?_
    refine wp_aload_n (pc' := 64) dX6_now_63 rfl rfl ⟨_, rfl⟩ ?_
    refine wp_get (pc' := 67) (o := 0) dX6_now_64 rfl flX6_46 (by decide) rfl rfl ?_
    refine wp_get (pc' := 70) (o := 13) dX6_now_67 rfl flX6_138 (by decide) rfl rfl ?_
    refine wp_cSI (μ' := mJ6_bitCount_0f7a4) (pc' := 73) dX6_now_70 rfl mlX6_161 cfJ6_bitCount_0f7a4 ⟨(Nat.le_of_ble_eq_true rfl), (Nat.le_of_ble_eq_true rfl)⟩ (sp_bitCount) rfl rfl (Nat.le_of_ble_eq_true rfl) ?_
    refine wp_ireti dX6_now_73 rfl ?_
    exact ri_ok (by rw [nowV, if_neg (by decide), if_pos rfl]) rfl
  · refine wp_tin (off := 73) 74 dX6_now_1 (by decide) (by decide) (by decide) (by decide) ?_
    refine wp_aload_n (pc' := 75) dX6_now_74 rfl rfl ⟨_, rfl⟩ ?_
    refine wp_get (pc' := 78) (o := 0) dX6_now_75 rfl flX6_46 (by decide) rfl rfl ?_
    refine wp_get (pc' := 81) (o := 13) dX6_now_78 rfl flX6_158 (by decide) rfl rfl ?_
    refine wp_cSI (μ' := mJ6_bitCount_0f7a4) (pc' := 84) dX6_now_81 rfl mlX6_161 cfJ6_bitCount_0f7a4 ⟨(Nat.le_of_ble_eq_true rfl), (Nat.le_of_ble_eq_true rfl)⟩ (sp_bitCount) rfl rfl (Nat.le_of_ble_eq_true rfl) ?_
    refine wp_ireti dX6_now_84 rfl ?_
    exact ri_ok (by rw [nowV, if_neg (by decide), if_neg (by decide), if_pos rfl]) rfl
  · refine wp_tin (off := 84) 85 dX6_now_1 (by decide) (by decide) (by decide) (by decide) ?_
    refine wp_aload_n (pc' := 86) dX6_now_85 rfl rfl ⟨_, rfl⟩ ?_
    refine wp_get (pc' := 89) (o := 0) dX6_now_86 rfl flX6_46 (by decide) rfl rfl ?_
    refine wp_cVI (μ' := mX0_passedByAll) (pc' := 92) (o := 13) dX6_now_89 rfl mlX6_166 cfX0_passedByAll ⟨(Nat.le_of_ble_eq_true rfl), (Nat.le_of_ble_eq_true rfl)⟩ (sp_passedByAll) (by decide) rfl rfl rfl rfl rfl (Nat.le_of_ble_eq_true rfl) ?_
    refine wp_ireti dX6_now_92 rfl ?_
    exact ri_ok (by rw [nowV, if_neg (by decide), if_neg (by decide), if_neg (by decide), if_pos rfl]) rfl
  · refine wp_tout 93 dX6_now_1 h1 (by decide) ?_
    refine wp_iconst (pc' := 94) (-1) dX6_now_93 rfl (by decide) ?_
    refine wp_ireti dX6_now_94 rfl ?_
    exact ri_ok (by rw [nowV, if_neg (tsw_ne h1 0 (by decide)), if_neg (tsw_ne h1 1 (by decide)), if_neg (tsw_ne h1 2 (by decide)), if_neg (tsw_ne h1 3 (by decide))]) rfl
def countV (M : Mem) (what : Int32) : Int32 := if what = 0 then M.1 4 0 else if what = 1 then M.1 4 1 else if what = 2 then M.1 4 7 else if what = 3 then M.1 4 5 else if what = 4 then M.1 2 1 else -1
theorem sp_count {g : GG} {M : Mem} {what : Int32} : RI g mX6_count [ob g 0, .int what] M (countV M what) M := by
  refine spec_of_wp (ls := [some (ob g 0), some (.int what)]) rfl (Nat.le_of_ble_eq_true rfl) 0 rfl ?_
  refine wp_iload_n (pc' := 1) dX6_count_0 rfl rfl ?_
  rcases tsw_5 what with rfl | rfl | rfl | rfl | rfl | h1
  · refine wp_tin (off := 35) 36 dX6_count_1 (by decide) (by decide) (by decide) (by decide) ?_
    refine wp_aload_n (pc' := 37) dX6_count_36 rfl rfl ⟨_, rfl⟩ ?_
    refine wp_get (pc' := 40) (o := 0) dX6_count_37 rfl flX6_24 (by decide) rfl rfl ?_
    refine wp_get (pc' := 43) (o := 4) dX6_count_40 rfl flX6_82 (by decide) rfl rfl ?_
    refine wp_ireti dX6_count_43 rfl ?_
    exact ri_ok (by rw [countV, if_pos rfl]) rfl
  · refine wp_tin (off := 43) 44 dX6_count_1 (by decide) (by decide) (by decide) (by decide) ?_
    refine wp_aload_n (pc' := 45) dX6_count_44 rfl rfl ⟨_, rfl⟩ ?_
    refine wp_get (pc' := 48) (o := 0) dX6_count_45 rfl flX6_24 (by decide) rfl rfl ?_
    refine wp_get (pc' := 51) (o := 4) dX6_count_48 rfl flX6_85 (by decide) rfl rfl ?_
    refine wp_ireti dX6_count_51 rfl ?_
    exact ri_ok (by rw [countV, if_neg (by decide), if_pos rfl]) rfl
  · refine wp_tin (off := 51) 52 dX6_count_1 (by decide) (by decide) (by decide) (by decide) ?_
    refine wp_aload_n (pc' := 53) dX6_count_52 rfl rfl ⟨_, rfl⟩ ?_
    refine wp_get (pc' := 56) (o := 0) dX6_count_53 rfl flX6_24 (by decide) rfl rfl ?_
    refine wp_get (pc' := 59) (o := 4) dX6_count_56 rfl flX6_149 (by decide) rfl rfl ?_
    refine wp_ireti dX6_count_59 rfl ?_
    exact ri_ok (by rw [countV, if_neg (by decide), if_neg (by decide), if_pos rfl]) rfl
  · refine wp_tin (off := 59) 60 dX6_count_1 (by decide) (by decide) (by decide) (by decide) ?_
    refine wp_aload_n (pc' := 61) dX6_count_60 rfl rfl ⟨_, rfl⟩ ?_
    refine wp_get (pc' := 64) (o := 0) dX6_count_61 rfl flX6_24 (by decide) rfl rfl ?_
    refine wp_get (pc' := 67) (o := 4) dX6_count_64 rfl flX6_221 (by decide) rfl rfl ?_
    refine wp_ireti dX6_count_67 rfl ?_
    exact ri_ok (by rw [countV, if_neg (by decide), if_neg (by decide), if_neg (by decide), if_pos rfl]) rfl
  · refine wp_tin (off := 67) 68 dX6_count_1 (by decide) (by decide) (by decide) (by decide) ?_
    refine wp_aload_n (pc' := 69) dX6_count_68 rfl rfl ⟨_, rfl⟩ ?_
    refine wp_get (pc' := 72) (o := 0) dX6_count_69 rfl flX6_20 (by decide) rfl rfl ?_
    refine wp_get (pc' := 75) (o := 2) dX6_count_72 rfl flX6_60 (by decide) rfl rfl ?_
    refine wp_ireti dX6_count_75 rfl ?_
    exact ri_ok (by rw [countV, if_neg (by decide), if_neg (by decide), if_neg (by decide), if_neg (by decide), if_pos rfl]) rfl
  · refine wp_tout 76 dX6_count_1 h1 (by decide) ?_
    refine wp_iconst (pc' := 77) (-1) dX6_count_76 rfl (by decide) ?_
    refine wp_ireti dX6_count_77 rfl ?_
    exact ri_ok (by rw [countV, if_neg (tsw_ne h1 0 (by decide)), if_neg (tsw_ne h1 1 (by decide)), if_neg (tsw_ne h1 2 (by decide)), if_neg (tsw_ne h1 3 (by decide)), if_neg (tsw_ne h1 4 (by decide))]) rfl
theorem sp_trace {g : GG} {M : Mem} : RL_ g mX6_trace [ob g 0] M (M.2 0) M := by
  refine spec_of_wp (ls := [some (ob g 0)]) rfl (Nat.le_of_ble_eq_true rfl) 0 rfl ?_
  refine wp_aload_n (pc' := 1) dX6_trace_0 rfl rfl ⟨_, rfl⟩ ?_
  refine wp_get (pc' := 4) (o := 0) dX6_trace_1 rfl flX6_56 (by decide) rfl rfl ?_
  refine wp_lret dX6_trace_4 rfl ?_
  exact ⟨rfl, rfl⟩
theorem sp_anew {g : GG} {M : Mem} : RI g mX6_anew [ob g 0] M (pbF M 4 0 0) (batM M) := by
  refine spec_of_wp (ls := [some (ob g 0), none]) rfl (Nat.le_of_ble_eq_true rfl) 1 rfl ?_
  refine wp_aload_n (pc' := 1) dX6_anew_0 rfl rfl ⟨_, rfl⟩ ?_
  refine wp_get (pc' := 4) (o := 0) dX6_anew_1 rfl flX6_46 (by decide) rfl rfl ?_
  refine wp_cVI (μ' := mX0_passedByAll) (pc' := 7) (o := 13) dX6_anew_4 rfl mlX6_166 cfX0_passedByAll ⟨(Nat.le_of_ble_eq_true rfl), (Nat.le_of_ble_eq_true rfl)⟩ (sp_passedByAll) (by decide) rfl rfl rfl rfl rfl (Nat.le_of_ble_eq_true rfl) ?_
  refine wp_ist1 (pc' := 8) dX6_anew_7 rfl (by decide) rfl ?_
  refine wp_aload_n (pc' := 9) dX6_anew_8 rfl rfl ⟨_, rfl⟩ ?_
  refine wp_get (pc' := 12) (o := 0) dX6_anew_9 rfl flX6_46 (by decide) rfl rfl ?_
  refine wp_aload_n (pc' := 13) dX6_anew_12 rfl rfl ⟨_, rfl⟩ ?_
  refine wp_get (pc' := 16) (o := 0) dX6_anew_13 rfl flX6_24 (by decide) rfl rfl ?_
  refine wp_cVV (μ' := mX0_beginAsTold) (pc' := 19) (o := 13) dX6_anew_16 rfl mlX6_94 cfX0_beginAsTold ⟨(Nat.le_of_ble_eq_true rfl), (Nat.le_of_ble_eq_true rfl)⟩ (sp_beginAsTold) (by decide) rfl rfl rfl rfl rfl (Nat.le_of_ble_eq_true rfl) ?_
  refine wp_iload_n (pc' := 20) dX6_anew_19 rfl rfl ?_
  refine wp_ireti dX6_anew_20 rfl ?_
  exact ri_ok rfl rfl
def stepsV (M : Mem) (a b : Int32) : Int32 := if isCellF M a = 0 ∨ isCellF M b = 0 then -1 else fsF (nearM M) a b (bearM M)
theorem sp_steps {g : GG} {M : Mem} {a b : Int32} : RI g mX6_steps [ob g 0, .int a, .int b] M (stepsV M a b) M := by
  refine spec_of_wp (ls := [some (ob g 0), some (.int a), some (.int b)]) rfl (Nat.le_of_ble_eq_true rfl) 0 rfl ?_
  refine wp_aload_n (pc' := 1) dX6_steps_0 rfl rfl ⟨_, rfl⟩ ?_
  refine wp_iload_n (pc' := 2) dX6_steps_1 rfl rfl ?_
  refine wp_cVI (μ' := mX6_isCell) (pc' := 5) (o := 0) dX6_steps_2 rfl mlX6_101 cfX6_isCell ⟨(Nat.le_of_ble_eq_true rfl), (Nat.le_of_ble_eq_true rfl)⟩ (sp_isCell) (by decide) rfl rfl rfl rfl rfl (Nat.le_of_ble_eq_true rfl) ?_
  refine wp_if_eq (pc' := 8) 16 dX6_steps_5 rfl (by decide) (fun h5 => ?_) (fun h5 => ?_)
  · refine wp_iconst (pc' := 17) (-1) dX6_steps_16 rfl (by decide) ?_
    refine wp_ireti dX6_steps_17 rfl ?_
    exact ri_ok (by rw [stepsV, if_pos (Or.inl h5)]) rfl
  · refine wp_aload_n (pc' := 9) dX6_steps_8 rfl rfl ⟨_, rfl⟩ ?_
    refine wp_iload_n (pc' := 10) dX6_steps_9 rfl rfl ?_
    refine wp_cVI (μ' := mX6_isCell) (pc' := 13) (o := 0) dX6_steps_10 rfl mlX6_101 cfX6_isCell ⟨(Nat.le_of_ble_eq_true rfl), (Nat.le_of_ble_eq_true rfl)⟩ (sp_isCell) (by decide) rfl rfl rfl rfl rfl (Nat.le_of_ble_eq_true rfl) ?_
    refine wp_if_ne (pc' := 16) 18 dX6_steps_13 rfl (by decide) (fun h13 => ?_) (fun h13 => ?_)
    · refine wp_aload_n (pc' := 19) dX6_steps_18 rfl rfl ⟨_, rfl⟩ ?_
      refine wp_get (pc' := 22) (o := 0) dX6_steps_19 rfl flX6_42 (by decide) rfl rfl ?_
      refine wp_iload_n (pc' := 23) dX6_steps_22 rfl rfl ?_
      refine wp_iload_n (pc' := 24) dX6_steps_23 rfl rfl ?_
      refine wp_aload_n (pc' := 25) dX6_steps_24 rfl rfl ⟨_, rfl⟩ ?_
      refine wp_cVI (μ' := mX6_bearing) (pc' := 28) (o := 0) dX6_steps_25 rfl mlX6_169 cfX6_bearing ⟨(Nat.le_of_ble_eq_true rfl), (Nat.le_of_ble_eq_true rfl)⟩ (sp_bearing) (by decide) rfl rfl rfl rfl rfl (Nat.le_of_ble_eq_true rfl) ?_
      refine wp_cVI (μ' := mX5_fewestSteps) (pc' := 31) (o := 11) dX6_steps_28 rfl mlX6_172 cfX5_fewestSteps ⟨(Nat.le_of_ble_eq_true rfl), (Nat.le_of_ble_eq_true rfl)⟩ (sp_fewestSteps) (by decide) rfl rfl rfl rfl rfl (Nat.le_of_ble_eq_true rfl) ?_
      refine wp_ireti dX6_steps_31 rfl ?_
      exact ri_ok (by rw [stepsV, if_neg (fun h => h.elim h5 h13)]) rfl
    · refine wp_iconst (pc' := 17) (-1) dX6_steps_16 rfl (by decide) ?_
      refine wp_ireti dX6_steps_17 rfl ?_
      exact ri_ok (by rw [stepsV, if_pos (Or.inr h13)]) rfl
def stonesV (M : Mem) (a b : Int32) : Int32 := if isCellF M a = 0 ∨ isCellF M b = 0 then -1 else stonesF (nearM M) a b (bearM M)
theorem sp_stones {g : GG} {M : Mem} {a b : Int32} : RI g mX6_stones [ob g 0, .int a, .int b] M (stonesV M a b) M := by
  refine spec_of_wp (ls := [some (ob g 0), some (.int a), some (.int b)]) rfl (Nat.le_of_ble_eq_true rfl) 0 rfl ?_
  refine wp_aload_n (pc' := 1) dX6_stones_0 rfl rfl ⟨_, rfl⟩ ?_
  refine wp_iload_n (pc' := 2) dX6_stones_1 rfl rfl ?_
  refine wp_cVI (μ' := mX6_isCell) (pc' := 5) (o := 0) dX6_stones_2 rfl mlX6_101 cfX6_isCell ⟨(Nat.le_of_ble_eq_true rfl), (Nat.le_of_ble_eq_true rfl)⟩ (sp_isCell) (by decide) rfl rfl rfl rfl rfl (Nat.le_of_ble_eq_true rfl) ?_
  refine wp_if_eq (pc' := 8) 16 dX6_stones_5 rfl (by decide) (fun h5 => ?_) (fun h5 => ?_)
  · refine wp_iconst (pc' := 17) (-1) dX6_stones_16 rfl (by decide) ?_
    refine wp_ireti dX6_stones_17 rfl ?_
    exact ri_ok (by rw [stonesV, if_pos (Or.inl h5)]) rfl
  · refine wp_aload_n (pc' := 9) dX6_stones_8 rfl rfl ⟨_, rfl⟩ ?_
    refine wp_iload_n (pc' := 10) dX6_stones_9 rfl rfl ?_
    refine wp_cVI (μ' := mX6_isCell) (pc' := 13) (o := 0) dX6_stones_10 rfl mlX6_101 cfX6_isCell ⟨(Nat.le_of_ble_eq_true rfl), (Nat.le_of_ble_eq_true rfl)⟩ (sp_isCell) (by decide) rfl rfl rfl rfl rfl (Nat.le_of_ble_eq_true rfl) ?_
    refine wp_if_ne (pc' := 16) 18 dX6_stones_13 rfl (by decide) (fun h13 => ?_) (fun h13 => ?_)
    · refine wp_aload_n (pc' := 19) dX6_stones_18 rfl rfl ⟨_, rfl⟩ ?_
      refine wp_get (pc' := 22) (o := 0) dX6_stones_19 rfl flX6_42 (by decide) rfl rfl ?_
      refine wp_iload_n (pc' := 23) dX6_stones_22 rfl rfl ?_
      refine wp_iload_n (pc' := 24) dX6_stones_23 rfl rfl ?_
      refine wp_aload_n (pc' := 25) dX6_stones_24 rfl rfl ⟨_, rfl⟩ ?_
      refine wp_cVI (μ' := mX6_bearing) (pc' := 28) (o := 0) dX6_stones_25 rfl mlX6_169 cfX6_bearing ⟨(Nat.le_of_ble_eq_true rfl), (Nat.le_of_ble_eq_true rfl)⟩ (sp_bearing) (by decide) rfl rfl rfl rfl rfl (Nat.le_of_ble_eq_true rfl) ?_
      refine wp_cVI (μ' := mX5_fewestStones) (pc' := 31) (o := 11) dX6_stones_28 rfl mlX6_179 cfX5_fewestStones ⟨(Nat.le_of_ble_eq_true rfl), (Nat.le_of_ble_eq_true rfl)⟩ (sp_fewestStones) (by decide) rfl rfl rfl rfl rfl (Nat.le_of_ble_eq_true rfl) ?_
      refine wp_ireti dX6_stones_31 rfl ?_
      exact ri_ok (by rw [stonesV, if_neg (fun h => h.elim h5 h13)]) rfl
    · refine wp_iconst (pc' := 17) (-1) dX6_stones_16 rfl (by decide) ?_
      refine wp_ireti dX6_stones_17 rfl ?_
      exact ri_ok (by rw [stonesV, if_pos (Or.inr h13)]) rfl
def wyF (nr : Int32 → Int32) (b bear : Int32) : Nat → Int32 → Int32
  | 0, c => c
  | n + 1, c => wyF nr b bear n (nextF nr c b bear)
theorem lp_way {g : GG} {M : Mem} {a b i ln : Int32} {s : Nat} (hs : s < 2 ^ 31) (hi : i = nI s) : ∀ (n j : Nat), j + n = s → ∀ (c : Int32), wp g mX6_way 62 [some (ob g 0), some (.int a), some (.int b), some (.int i), some (.int ln), some (.int c), some (.int (nI j))] [] M (fun q m => q = some (.int (wyF (nearM M) b (bearM M) n c)) ∧ m = M) := by
  subst hi
  intro n
  induction n with
  | zero =>
    intro j hj c
    obtain rfl : j = s := by omega
    refine wp_iload (pc' := 64) dX6_way_62 rfl rfl ?_
    refine wp_iload_n (pc' := 65) dX6_way_64 rfl rfl ?_
    refine wp_icmp_ge (pc' := 68) 90 dX6_way_65 rfl (by decide) (fun h65 => ?_) (fun h65 => ?_)
    · refine wp_iload (pc' := 92) dX6_way_90 rfl rfl ?_
      refine wp_ireti dX6_way_92 rfl ?_
      exact ri_ok rfl rfl
    · exact absurd (nI_le (Nat.le_refl j) hs) h65
  | succ n ih =>
    intro j hj c
    refine wp_iload (pc' := 64) dX6_way_62 rfl rfl ?_
    refine wp_iload_n (pc' := 65) dX6_way_64 rfl rfl ?_
    refine wp_icmp_ge (pc' := 68) 90 dX6_way_65 rfl (by decide) (fun h65 => ?_) (fun h65 => ?_)
    · refine wp_iload (pc' := 92) dX6_way_90 rfl rfl ?_
      refine wp_ireti dX6_way_92 rfl ?_
      exact absurd h65 (nI_ge (by omega) hs)
    · refine wp_aload_n (pc' := 69) dX6_way_68 rfl rfl ⟨_, rfl⟩ ?_
      refine wp_get (pc' := 72) (o := 0) dX6_way_69 rfl flX6_42 (by decide) rfl rfl ?_
      refine wp_iload (pc' := 74) dX6_way_72 rfl rfl ?_
      refine wp_iload_n (pc' := 75) dX6_way_74 rfl rfl ?_
      refine wp_aload_n (pc' := 76) dX6_way_75 rfl rfl ⟨_, rfl⟩ ?_
      refine wp_cVI (μ' := mX6_bearing) (pc' := 79) (o := 0) dX6_way_76 rfl mlX6_169 cfX6_bearing ⟨(Nat.le_of_ble_eq_true rfl), (Nat.le_of_ble_eq_true rfl)⟩ (sp_bearing) (by decide) rfl rfl rfl rfl rfl (Nat.le_of_ble_eq_true rfl) ?_
      refine wp_cVI (μ' := mX5_nextCell) (pc' := 82) (o := 11) dX6_way_79 rfl mlX6_176 cfX5_nextCell ⟨(Nat.le_of_ble_eq_true rfl), (Nat.le_of_ble_eq_true rfl)⟩ (sp_nextCell) (by decide) rfl rfl rfl rfl rfl (Nat.le_of_ble_eq_true rfl) ?_
      refine wp_ist5 (pc' := 84) dX6_way_82 rfl (by decide) rfl ?_
      refine wp_inc6 (pc' := 87) (nI (j + 1)) dX6_way_84 rfl (by decide) rfl (nI_1 j) ?_
      refine wp_goto 62 dX6_way_87 (by decide) ?_
      exact ih (j + 1) (by omega) _
def wayV (M : Mem) (a b i : Int32) : Int32 := if isCellF M a = 0 ∨ isCellF M b = 0 ∨ i < 0 then -1 else if fsF (nearM M) a b (bearM M) = -9 then -9 else if fsF (nearM M) a b (bearM M) < i then -5 else wyF (nearM M) b (bearM M) i.toNatClampNeg a
theorem sp_way {g : GG} {M : Mem} {a b i : Int32} : RI g mX6_way [ob g 0, .int a, .int b, .int i] M (wayV M a b i) M := by
  refine spec_of_wp (ls := [some (ob g 0), some (.int a), some (.int b), some (.int i), none, none, none]) rfl (Nat.le_of_ble_eq_true rfl) 3 rfl ?_
  refine wp_aload_n (pc' := 1) dX6_way_0 rfl rfl ⟨_, rfl⟩ ?_
  refine wp_iload_n (pc' := 2) dX6_way_1 rfl rfl ?_
  refine wp_cVI (μ' := mX6_isCell) (pc' := 5) (o := 0) dX6_way_2 rfl mlX6_101 cfX6_isCell ⟨(Nat.le_of_ble_eq_true rfl), (Nat.le_of_ble_eq_true rfl)⟩ (sp_isCell) (by decide) rfl rfl rfl rfl rfl (Nat.le_of_ble_eq_true rfl) ?_
  refine wp_if_eq (pc' := 8) 20 dX6_way_5 rfl (by decide) (fun h5 => ?_) (fun h5 => ?_)
  · refine wp_iconst (pc' := 21) (-1) dX6_way_20 rfl (by decide) ?_
    refine wp_ireti dX6_way_21 rfl ?_
    exact ri_ok (by rw [wayV, if_pos (Or.inl h5)]) rfl
  · refine wp_aload_n (pc' := 9) dX6_way_8 rfl rfl ⟨_, rfl⟩ ?_
    refine wp_iload_n (pc' := 10) dX6_way_9 rfl rfl ?_
    refine wp_cVI (μ' := mX6_isCell) (pc' := 13) (o := 0) dX6_way_10 rfl mlX6_101 cfX6_isCell ⟨(Nat.le_of_ble_eq_true rfl), (Nat.le_of_ble_eq_true rfl)⟩ (sp_isCell) (by decide) rfl rfl rfl rfl rfl (Nat.le_of_ble_eq_true rfl) ?_
    refine wp_if_eq (pc' := 16) 20 dX6_way_13 rfl (by decide) (fun h13 => ?_) (fun h13 => ?_)
    · refine wp_iconst (pc' := 21) (-1) dX6_way_20 rfl (by decide) ?_
      refine wp_ireti dX6_way_21 rfl ?_
      exact ri_ok (by rw [wayV, if_pos (Or.inr (Or.inl h13))]) rfl
    · refine wp_iload_n (pc' := 17) dX6_way_16 rfl rfl ?_
      refine wp_if_ge (pc' := 20) 22 dX6_way_17 rfl (by decide) (fun h17 => ?_) (fun h17 => ?_)
      · refine wp_aload_n (pc' := 23) dX6_way_22 rfl rfl ⟨_, rfl⟩ ?_
        refine wp_get (pc' := 26) (o := 0) dX6_way_23 rfl flX6_42 (by decide) rfl rfl ?_
        refine wp_iload_n (pc' := 27) dX6_way_26 rfl rfl ?_
        refine wp_iload_n (pc' := 28) dX6_way_27 rfl rfl ?_
        refine wp_aload_n (pc' := 29) dX6_way_28 rfl rfl ⟨_, rfl⟩ ?_
        refine wp_cVI (μ' := mX6_bearing) (pc' := 32) (o := 0) dX6_way_29 rfl mlX6_169 cfX6_bearing ⟨(Nat.le_of_ble_eq_true rfl), (Nat.le_of_ble_eq_true rfl)⟩ (sp_bearing) (by decide) rfl rfl rfl rfl rfl (Nat.le_of_ble_eq_true rfl) ?_
        refine wp_cVI (μ' := mX5_fewestSteps) (pc' := 35) (o := 11) dX6_way_32 rfl mlX6_172 cfX5_fewestSteps ⟨(Nat.le_of_ble_eq_true rfl), (Nat.le_of_ble_eq_true rfl)⟩ (sp_fewestSteps) (by decide) rfl rfl rfl rfl rfl (Nat.le_of_ble_eq_true rfl) ?_
        refine wp_ist4 (pc' := 37) dX6_way_35 rfl (by decide) rfl ?_
        refine wp_iload (pc' := 39) dX6_way_37 rfl rfl ?_
        refine wp_bipush (pc' := 41) (-9) dX6_way_39 rfl (by decide) ?_
        refine wp_icmp_ne (pc' := 44) 47 dX6_way_41 rfl (by decide) (fun h41 => ?_) (fun h41 => ?_)
        · refine wp_iload_n (pc' := 48) dX6_way_47 rfl rfl ?_
          refine wp_iload (pc' := 50) dX6_way_48 rfl rfl ?_
          refine wp_icmp_le (pc' := 53) 56 dX6_way_50 rfl (by decide) (fun h50 => ?_) (fun h50 => ?_)
          · refine wp_iload_n (pc' := 57) dX6_way_56 rfl rfl ?_
            refine wp_ist5 (pc' := 59) dX6_way_57 rfl (by decide) rfl ?_
            refine wp_iconst (pc' := 60) 0 dX6_way_59 rfl (by decide) ?_
            refine wp_ist6 (pc' := 62) dX6_way_60 rfl (by decide) rfl ?_
            obtain ⟨s, hs, hi⟩ := nI_of (Int32.not_lt.mpr h17)
            have e : wayV M a b i = wyF (nearM M) b (bearM M) s a := by
              rw [wayV, if_neg (fun h => h.elim h5 (fun h => h.elim h13 (fun h => Int32.not_lt.mpr h17 h))), if_neg h41, if_neg (Int32.not_lt.mpr h50), hi, nI_clamp hs]
            rw [e]
            exact lp_way hs hi s 0 (Nat.zero_add s) _
          · refine wp_bipush (pc' := 55) (-5) dX6_way_53 rfl (by decide) ?_
            refine wp_ireti dX6_way_55 rfl ?_
            exact ri_ok (by rw [wayV, if_neg (fun h => h.elim h5 (fun h => h.elim h13 (fun h => Int32.not_lt.mpr h17 h))), if_neg h41, if_pos (Int32.not_le.mp h50)]) rfl
        · refine wp_bipush (pc' := 46) (-9) dX6_way_44 rfl (by decide) ?_
          refine wp_ireti dX6_way_46 rfl ?_
          exact ri_ok (by rw [wayV, if_neg (fun h => h.elim h5 (fun h => h.elim h13 (fun h => Int32.not_lt.mpr h17 h))), if_pos h41]) rfl
      · refine wp_iconst (pc' := 21) (-1) dX6_way_20 rfl (by decide) ?_
        refine wp_ireti dX6_way_21 rfl ?_
        exact ri_ok (by rw [wayV, if_pos (Or.inr (Or.inr (Int32.not_le.mp h17)))]) rfl
def joinedV (M : Mem) (set what : Int32) (s : Nat) : Int32 := if what = 0 then pcF (ljF (nearM M) (set &&& M.1 11 1) (bearM M) (M.1 13 0) s 0 (M.1 13 0)) else ljF (nearM M) (set &&& M.1 11 1) (bearM M) (M.1 13 0) s 0 (M.1 13 0)
theorem sp_joined_bad {g : GG} {M : Mem} {set what : Int32} (h : what < 0 ∨ 1 < what) : RI g mX6_joined [ob g 0, .int set, .int what] M (-1) M := by
  refine spec_of_wp (ls := [some (ob g 0), some (.int set), some (.int what), none]) rfl (Nat.le_of_ble_eq_true rfl) 1 rfl ?_
  refine wp_iload_n (pc' := 1) dX6_joined_0 rfl rfl ?_
  refine wp_if_lt (pc' := 4) 9 dX6_joined_1 rfl (by decide) (fun h1 => ?_) (fun h1 => ?_)
  · refine wp_iconst (pc' := 10) (-1) dX6_joined_9 rfl (by decide) ?_
    refine wp_ireti dX6_joined_10 rfl ?_
    exact ri_ok rfl rfl
  · refine wp_iload_n (pc' := 5) dX6_joined_4 rfl rfl ?_
    refine wp_iconst (pc' := 6) 1 dX6_joined_5 rfl (by decide) ?_
    refine wp_icmp_le (pc' := 9) 11 dX6_joined_6 rfl (by decide) (fun h6 => ?_) (fun h6 => ?_)
    · exact h.elim (fun h => absurd h h1) (fun h => absurd h6 (Int32.not_le.mpr h))
    · refine wp_iconst (pc' := 10) (-1) dX6_joined_9 rfl (by decide) ?_
      refine wp_ireti dX6_joined_10 rfl ?_
      exact ri_ok rfl rfl
theorem sp_joined_state {g : GG} {M : Mem} {set what : Int32} (h0 : ¬ what < 0) (h9 : what ≤ 1) (hb : ¬ pcF (M.1 13 0) ≤ 10) : RI g mX6_joined [ob g 0, .int set, .int what] M (-2) M := by
  refine spec_of_wp (ls := [some (ob g 0), some (.int set), some (.int what), none]) rfl (Nat.le_of_ble_eq_true rfl) 1 rfl ?_
  refine wp_iload_n (pc' := 1) dX6_joined_0 rfl rfl ?_
  refine wp_if_lt (pc' := 4) 9 dX6_joined_1 rfl (by decide) (fun q1 => ?_) (fun q1 => ?_)
  · exact absurd q1 h0
  · refine wp_iload_n (pc' := 5) dX6_joined_4 rfl rfl ?_
    refine wp_iconst (pc' := 6) 1 dX6_joined_5 rfl (by decide) ?_
    refine wp_icmp_le (pc' := 9) 11 dX6_joined_6 rfl (by decide) (fun q6 => ?_) (fun q6 => ?_)
    · refine wp_aload_n (pc' := 12) dX6_joined_11 rfl rfl ⟨_, rfl⟩ ?_
      refine wp_get (pc' := 15) (o := 0) dX6_joined_12 rfl flX6_46 (by decide) rfl rfl ?_
      refine wp_get (pc' := 18) (o := 13) dX6_joined_15 rfl flX6_138 (by decide) rfl rfl ?_
      refine wp_cSI (μ' := mJ6_bitCount_0f7a4) (pc' := 21) dX6_joined_18 rfl mlX6_161 cfJ6_bitCount_0f7a4 ⟨(Nat.le_of_ble_eq_true rfl), (Nat.le_of_ble_eq_true rfl)⟩ (sp_bitCount) rfl rfl (Nat.le_of_ble_eq_true rfl) ?_
      refine wp_bipush (pc' := 23) 10 dX6_joined_21 rfl (by decide) ?_
      refine wp_icmp_le (pc' := 26) 29 dX6_joined_23 rfl (by decide) (fun q23 => ?_) (fun q23 => ?_)
      · exact absurd q23 hb
      · refine wp_bipush (pc' := 28) (-2) dX6_joined_26 rfl (by decide) ?_
        refine wp_ireti dX6_joined_28 rfl ?_
        exact ri_ok rfl rfl
    · exact absurd h9 q6
theorem sp_joined {g : GG} {M : Mem} {set what : Int32} {s : Nat} (hs : s < 2 ^ 31) (he : shl 1 (pcF (M.1 13 0)) = nI s) (h0 : ¬ what < 0) (h9 : what ≤ 1) (hb : pcF (M.1 13 0) ≤ 10) : RI g mX6_joined [ob g 0, .int set, .int what] M (joinedV M set what s) M := by
  refine spec_of_wp (ls := [some (ob g 0), some (.int set), some (.int what), none]) rfl (Nat.le_of_ble_eq_true rfl) 1 rfl ?_
  refine wp_iload_n (pc' := 1) dX6_joined_0 rfl rfl ?_
  refine wp_if_lt (pc' := 4) 9 dX6_joined_1 rfl (by decide) (fun q1 => ?_) (fun q1 => ?_)
  · exact absurd q1 h0
  · refine wp_iload_n (pc' := 5) dX6_joined_4 rfl rfl ?_
    refine wp_iconst (pc' := 6) 1 dX6_joined_5 rfl (by decide) ?_
    refine wp_icmp_le (pc' := 9) 11 dX6_joined_6 rfl (by decide) (fun q6 => ?_) (fun q6 => ?_)
    · refine wp_aload_n (pc' := 12) dX6_joined_11 rfl rfl ⟨_, rfl⟩ ?_
      refine wp_get (pc' := 15) (o := 0) dX6_joined_12 rfl flX6_46 (by decide) rfl rfl ?_
      refine wp_get (pc' := 18) (o := 13) dX6_joined_15 rfl flX6_138 (by decide) rfl rfl ?_
      refine wp_cSI (μ' := mJ6_bitCount_0f7a4) (pc' := 21) dX6_joined_18 rfl mlX6_161 cfJ6_bitCount_0f7a4 ⟨(Nat.le_of_ble_eq_true rfl), (Nat.le_of_ble_eq_true rfl)⟩ (sp_bitCount) rfl rfl (Nat.le_of_ble_eq_true rfl) ?_
      refine wp_bipush (pc' := 23) 10 dX6_joined_21 rfl (by decide) ?_
      refine wp_icmp_le (pc' := 26) 29 dX6_joined_23 rfl (by decide) (fun q23 => ?_) (fun q23 => ?_)
      · refine wp_aload_n (pc' := 30) dX6_joined_29 rfl rfl ⟨_, rfl⟩ ?_
        refine wp_get (pc' := 33) (o := 0) dX6_joined_30 rfl flX6_34 (by decide) rfl rfl ?_
        refine wp_iload_n (pc' := 34) dX6_joined_33 rfl rfl ?_
        refine wp_aload_n (pc' := 35) dX6_joined_34 rfl rfl ⟨_, rfl⟩ ?_
        refine wp_get (pc' := 38) (o := 0) dX6_joined_35 rfl flX6_42 (by decide) rfl rfl ?_
        refine wp_get (pc' := 41) (o := 11) dX6_joined_38 rfl flX6_155 (by decide) rfl rfl ?_
        refine wp_iand (pc' := 42) dX6_joined_41 rfl ?_
        refine wp_aload_n (pc' := 43) dX6_joined_42 rfl rfl ⟨_, rfl⟩ ?_
        refine wp_cVI (μ' := mX6_bearing) (pc' := 46) (o := 0) dX6_joined_43 rfl mlX6_169 cfX6_bearing ⟨(Nat.le_of_ble_eq_true rfl), (Nat.le_of_ble_eq_true rfl)⟩ (sp_bearing) (by decide) rfl rfl rfl rfl rfl (Nat.le_of_ble_eq_true rfl) ?_
        refine wp_aload_n (pc' := 47) dX6_joined_46 rfl rfl ⟨_, rfl⟩ ?_
        refine wp_get (pc' := 50) (o := 0) dX6_joined_47 rfl flX6_46 (by decide) rfl rfl ?_
        refine wp_get (pc' := 53) (o := 13) dX6_joined_50 rfl flX6_138 (by decide) rfl rfl ?_
        refine wp_cVI (μ' := mX1_leastJoining) (pc' := 56) (o := 10) dX6_joined_53 rfl mlX6_182 cfX1_leastJoining ⟨(Nat.le_of_ble_eq_true rfl), (Nat.le_of_ble_eq_true rfl)⟩ (sp_leastJoining hs he) (by decide) rfl rfl rfl rfl rfl (Nat.le_of_ble_eq_true rfl) ?_
        refine wp_ist3 (pc' := 57) dX6_joined_56 rfl (by decide) rfl ?_
        refine wp_iload_n (pc' := 58) dX6_joined_57 rfl rfl ?_
        refine wp_if_ne (pc' := 61) 68 dX6_joined_58 rfl (by decide) (fun q58 => ?_) (fun q58 => ?_)
        · refine wp_iload_n (pc' := 69) dX6_joined_68 rfl rfl ?_
          refine wp_ireti dX6_joined_69 rfl ?_
          exact ri_ok (by rw [joinedV, if_neg q58]) rfl
        · refine wp_iload_n (pc' := 62) dX6_joined_61 rfl rfl ?_
          refine wp_cSI (μ' := mJ6_bitCount_0f7a4) (pc' := 65) dX6_joined_62 rfl mlX6_161 cfJ6_bitCount_0f7a4 ⟨(Nat.le_of_ble_eq_true rfl), (Nat.le_of_ble_eq_true rfl)⟩ (sp_bitCount) rfl rfl (Nat.le_of_ble_eq_true rfl) ?_
          refine wp_goto 69 dX6_joined_65 (by decide) ?_
          refine wp_ireti dX6_joined_69 rfl ?_
          exact ri_ok (by rw [joinedV, if_pos q58]) rfl
      · exact absurd hb q23
    · exact absurd h9 q6
theorem sp_likedBy {g : GG} {M : Mem} {k : Int32} : RI g mX6_likedBy [ob g 0, .int k] M (btlF (nearM M) (atF 4 (M.1 5) k) (atF 4 (M.1 6) k) (bearM M) (M.1 13 0) 24 0 (-9) 25) M := by
  refine spec_of_wp (ls := [some (ob g 0), some (.int k)]) rfl (Nat.le_of_ble_eq_true rfl) 0 rfl ?_
  refine wp_aload_n (pc' := 1) dX6_likedBy_0 rfl rfl ⟨_, rfl⟩ ?_
  refine wp_get (pc' := 4) (o := 0) dX6_likedBy_1 rfl flX6_34 (by decide) rfl rfl ?_
  refine wp_aload_n (pc' := 5) dX6_likedBy_4 rfl rfl ⟨_, rfl⟩ ?_
  refine wp_get (pc' := 8) (o := 0) dX6_likedBy_5 rfl flX6_24 (by decide) rfl rfl ?_
  refine wp_get (pc' := 11) (o := 4) dX6_likedBy_8 rfl flX6_123 (by decide) rfl rfl ?_
  refine wp_iload_n (pc' := 12) dX6_likedBy_11 rfl rfl ?_
  refine wp_cSI (μ' := mX6_at) (pc' := 15) dX6_likedBy_12 rfl mlX6_113 cfX6_at ⟨(Nat.le_of_ble_eq_true rfl), (Nat.le_of_ble_eq_true rfl)⟩ (sp_at arr5) rfl rfl (Nat.le_of_ble_eq_true rfl) ?_
  refine wp_aload_n (pc' := 16) dX6_likedBy_15 rfl rfl ⟨_, rfl⟩ ?_
  refine wp_get (pc' := 19) (o := 0) dX6_likedBy_16 rfl flX6_24 (by decide) rfl rfl ?_
  refine wp_get (pc' := 22) (o := 4) dX6_likedBy_19 rfl flX6_126 (by decide) rfl rfl ?_
  refine wp_iload_n (pc' := 23) dX6_likedBy_22 rfl rfl ?_
  refine wp_cSI (μ' := mX6_at) (pc' := 26) dX6_likedBy_23 rfl mlX6_113 cfX6_at ⟨(Nat.le_of_ble_eq_true rfl), (Nat.le_of_ble_eq_true rfl)⟩ (sp_at arr6) rfl rfl (Nat.le_of_ble_eq_true rfl) ?_
  refine wp_aload_n (pc' := 27) dX6_likedBy_26 rfl rfl ⟨_, rfl⟩ ?_
  refine wp_cVI (μ' := mX6_bearing) (pc' := 30) (o := 0) dX6_likedBy_27 rfl mlX6_169 cfX6_bearing ⟨(Nat.le_of_ble_eq_true rfl), (Nat.le_of_ble_eq_true rfl)⟩ (sp_bearing) (by decide) rfl rfl rfl rfl rfl (Nat.le_of_ble_eq_true rfl) ?_
  refine wp_aload_n (pc' := 31) dX6_likedBy_30 rfl rfl ⟨_, rfl⟩ ?_
  refine wp_get (pc' := 34) (o := 0) dX6_likedBy_31 rfl flX6_46 (by decide) rfl rfl ?_
  refine wp_get (pc' := 37) (o := 13) dX6_likedBy_34 rfl flX6_138 (by decide) rfl rfl ?_
  refine wp_cVI (μ' := mX1_bestToLay) (pc' := 40) (o := 10) dX6_likedBy_37 rfl mlX6_227 cfX1_bestToLay ⟨(Nat.le_of_ble_eq_true rfl), (Nat.le_of_ble_eq_true rfl)⟩ (sp_bestToLay) (by decide) rfl rfl rfl rfl rfl (Nat.le_of_ble_eq_true rfl) ?_
  refine wp_ireti dX6_likedBy_40 rfl ?_
  exact ri_ok rfl rfl
def likedF (M : Mem) (k : Int32) : Int32 := btlF (nearM M) (atF 4 (M.1 5) k) (atF 4 (M.1 6) k) (bearM M) (M.1 13 0) 24 0 (-9) 25
def likesV (M : Mem) (k : Int32) : Int32 := if isWalkerF M k = 0 then -1 else likedF M k
theorem sp_likes {g : GG} {M : Mem} {k : Int32} : RI g mX6_likes [ob g 0, .int k] M (likesV M k) M := by
  refine spec_of_wp (ls := [some (ob g 0), some (.int k)]) rfl (Nat.le_of_ble_eq_true rfl) 0 rfl ?_
  refine wp_aload_n (pc' := 1) dX6_likes_0 rfl rfl ⟨_, rfl⟩ ?_
  refine wp_iload_n (pc' := 2) dX6_likes_1 rfl rfl ?_
  refine wp_cVI (μ' := mX6_isWalker) (pc' := 5) (o := 0) dX6_likes_2 rfl mlX6_120 cfX6_isWalker ⟨(Nat.le_of_ble_eq_true rfl), (Nat.le_of_ble_eq_true rfl)⟩ (sp_isWalker) (by decide) rfl rfl rfl rfl rfl (Nat.le_of_ble_eq_true rfl) ?_
  refine wp_if_ne (pc' := 8) 10 dX6_likes_5 rfl (by decide) (fun h5 => ?_) (fun h5 => ?_)
  · refine wp_aload_n (pc' := 11) dX6_likes_10 rfl rfl ⟨_, rfl⟩ ?_
    refine wp_iload_n (pc' := 12) dX6_likes_11 rfl rfl ?_
    refine wp_cVI (μ' := mX6_likedBy) (pc' := 15) (o := 0) dX6_likes_12 rfl mlX6_152 cfX6_likedBy ⟨(Nat.le_of_ble_eq_true rfl), (Nat.le_of_ble_eq_true rfl)⟩ (sp_likedBy) (by decide) rfl rfl rfl rfl rfl (Nat.le_of_ble_eq_true rfl) ?_
    refine wp_ireti dX6_likes_15 rfl ?_
    exact ri_ok (by rw [likesV, if_neg h5]; try rfl) rfl
  · refine wp_iconst (pc' := 9) (-1) dX6_likes_8 rfl (by decide) ?_
    refine wp_ireti dX6_likes_9 rfl ?_
    exact ri_ok (by rw [likesV, if_pos h5]; try rfl) rfl
theorem sp_byTurns_bad {g : GG} {M : Mem} {a b : Int32} (h : isCellF M a = 0 ∨ isCellF M b = 0) : RI g mX6_byTurns [ob g 0, .int a, .int b] M (-1) M := by
  refine spec_of_wp (ls := [some (ob g 0), some (.int a), some (.int b)]) rfl (Nat.le_of_ble_eq_true rfl) 0 rfl ?_
  refine wp_aload_n (pc' := 1) dX6_byTurns_0 rfl rfl ⟨_, rfl⟩ ?_
  refine wp_iload_n (pc' := 2) dX6_byTurns_1 rfl rfl ?_
  refine wp_cVI (μ' := mX6_isCell) (pc' := 5) (o := 0) dX6_byTurns_2 rfl mlX6_101 cfX6_isCell ⟨(Nat.le_of_ble_eq_true rfl), (Nat.le_of_ble_eq_true rfl)⟩ (sp_isCell) (by decide) rfl rfl rfl rfl rfl (Nat.le_of_ble_eq_true rfl) ?_
  refine wp_if_eq (pc' := 8) 16 dX6_byTurns_5 rfl (by decide) (fun h5 => ?_) (fun h5 => ?_)
  · refine wp_iconst (pc' := 17) (-1) dX6_byTurns_16 rfl (by decide) ?_
    refine wp_ireti dX6_byTurns_17 rfl ?_
    exact ri_ok rfl rfl
  · refine wp_aload_n (pc' := 9) dX6_byTurns_8 rfl rfl ⟨_, rfl⟩ ?_
    refine wp_iload_n (pc' := 10) dX6_byTurns_9 rfl rfl ?_
    refine wp_cVI (μ' := mX6_isCell) (pc' := 13) (o := 0) dX6_byTurns_10 rfl mlX6_101 cfX6_isCell ⟨(Nat.le_of_ble_eq_true rfl), (Nat.le_of_ble_eq_true rfl)⟩ (sp_isCell) (by decide) rfl rfl rfl rfl rfl (Nat.le_of_ble_eq_true rfl) ?_
    refine wp_if_ne (pc' := 16) 18 dX6_byTurns_13 rfl (by decide) (fun h13 => ?_) (fun h13 => ?_)
    · exact (h.elim h5 h13).elim
    · refine wp_iconst (pc' := 17) (-1) dX6_byTurns_16 rfl (by decide) ?_
      refine wp_ireti dX6_byTurns_17 rfl ?_
      exact ri_ok rfl rfl
theorem sp_byTurns_state {g : GG} {M : Mem} {a b : Int32} (h : ¬ (isCellF M a = 0 ∨ isCellF M b = 0)) (hb : ¬ pcF (M.1 13 0) ≤ 8) : RI g mX6_byTurns [ob g 0, .int a, .int b] M (-2) M := by
  refine spec_of_wp (ls := [some (ob g 0), some (.int a), some (.int b)]) rfl (Nat.le_of_ble_eq_true rfl) 0 rfl ?_
  refine wp_aload_n (pc' := 1) dX6_byTurns_0 rfl rfl ⟨_, rfl⟩ ?_
  refine wp_iload_n (pc' := 2) dX6_byTurns_1 rfl rfl ?_
  refine wp_cVI (μ' := mX6_isCell) (pc' := 5) (o := 0) dX6_byTurns_2 rfl mlX6_101 cfX6_isCell ⟨(Nat.le_of_ble_eq_true rfl), (Nat.le_of_ble_eq_true rfl)⟩ (sp_isCell) (by decide) rfl rfl rfl rfl rfl (Nat.le_of_ble_eq_true rfl) ?_
  refine wp_if_eq (pc' := 8) 16 dX6_byTurns_5 rfl (by decide) (fun h5 => ?_) (fun h5 => ?_)
  · exact absurd (Or.inl h5) h
  · refine wp_aload_n (pc' := 9) dX6_byTurns_8 rfl rfl ⟨_, rfl⟩ ?_
    refine wp_iload_n (pc' := 10) dX6_byTurns_9 rfl rfl ?_
    refine wp_cVI (μ' := mX6_isCell) (pc' := 13) (o := 0) dX6_byTurns_10 rfl mlX6_101 cfX6_isCell ⟨(Nat.le_of_ble_eq_true rfl), (Nat.le_of_ble_eq_true rfl)⟩ (sp_isCell) (by decide) rfl rfl rfl rfl rfl (Nat.le_of_ble_eq_true rfl) ?_
    refine wp_if_ne (pc' := 16) 18 dX6_byTurns_13 rfl (by decide) (fun h13 => ?_) (fun h13 => ?_)
    · refine wp_aload_n (pc' := 19) dX6_byTurns_18 rfl rfl ⟨_, rfl⟩ ?_
      refine wp_get (pc' := 22) (o := 0) dX6_byTurns_19 rfl flX6_46 (by decide) rfl rfl ?_
      refine wp_get (pc' := 25) (o := 13) dX6_byTurns_22 rfl flX6_138 (by decide) rfl rfl ?_
      refine wp_cSI (μ' := mJ6_bitCount_0f7a4) (pc' := 28) dX6_byTurns_25 rfl mlX6_161 cfJ6_bitCount_0f7a4 ⟨(Nat.le_of_ble_eq_true rfl), (Nat.le_of_ble_eq_true rfl)⟩ (sp_bitCount) rfl rfl (Nat.le_of_ble_eq_true rfl) ?_
      refine wp_bipush (pc' := 30) 8 dX6_byTurns_28 rfl (by decide) ?_
      refine wp_icmp_le (pc' := 33) 36 dX6_byTurns_30 rfl (by decide) (fun h30 => ?_) (fun h30 => ?_)
      · exact absurd h30 hb
      · refine wp_bipush (pc' := 35) (-2) dX6_byTurns_33 rfl (by decide) ?_
        refine wp_ireti dX6_byTurns_35 rfl ?_
        exact ri_ok rfl rfl
    · exact absurd (Or.inr h13) h
theorem sp_byTurns {g : GG} {M : Mem} {a b : Int32} {s n : Nat} (hs : s < 2 ^ 31) (hn : n < 2 ^ 31) (he : pcF (M.1 13 0) = nI s) (hf : shl 1 (nI s) = nI n) (h : ¬ (isCellF M a = 0 ∨ isCellF M b = 0)) (hb : pcF (M.1 13 0) ≤ 8) : RI g mX6_byTurns [ob g 0, .int a, .int b] M (atF 256 ((ltM (nearM M) a b (bearM M) (M.1 13 0) s n (M.1 13 0) M).1 12) 0) (ltM (nearM M) a b (bearM M) (M.1 13 0) s n (M.1 13 0) M) := by
  refine spec_of_wp (ls := [some (ob g 0), some (.int a), some (.int b)]) rfl (Nat.le_of_ble_eq_true rfl) 0 rfl ?_
  refine wp_aload_n (pc' := 1) dX6_byTurns_0 rfl rfl ⟨_, rfl⟩ ?_
  refine wp_iload_n (pc' := 2) dX6_byTurns_1 rfl rfl ?_
  refine wp_cVI (μ' := mX6_isCell) (pc' := 5) (o := 0) dX6_byTurns_2 rfl mlX6_101 cfX6_isCell ⟨(Nat.le_of_ble_eq_true rfl), (Nat.le_of_ble_eq_true rfl)⟩ (sp_isCell) (by decide) rfl rfl rfl rfl rfl (Nat.le_of_ble_eq_true rfl) ?_
  refine wp_if_eq (pc' := 8) 16 dX6_byTurns_5 rfl (by decide) (fun h5 => ?_) (fun h5 => ?_)
  · exact absurd (Or.inl h5) h
  · refine wp_aload_n (pc' := 9) dX6_byTurns_8 rfl rfl ⟨_, rfl⟩ ?_
    refine wp_iload_n (pc' := 10) dX6_byTurns_9 rfl rfl ?_
    refine wp_cVI (μ' := mX6_isCell) (pc' := 13) (o := 0) dX6_byTurns_10 rfl mlX6_101 cfX6_isCell ⟨(Nat.le_of_ble_eq_true rfl), (Nat.le_of_ble_eq_true rfl)⟩ (sp_isCell) (by decide) rfl rfl rfl rfl rfl (Nat.le_of_ble_eq_true rfl) ?_
    refine wp_if_ne (pc' := 16) 18 dX6_byTurns_13 rfl (by decide) (fun h13 => ?_) (fun h13 => ?_)
    · refine wp_aload_n (pc' := 19) dX6_byTurns_18 rfl rfl ⟨_, rfl⟩ ?_
      refine wp_get (pc' := 22) (o := 0) dX6_byTurns_19 rfl flX6_46 (by decide) rfl rfl ?_
      refine wp_get (pc' := 25) (o := 13) dX6_byTurns_22 rfl flX6_138 (by decide) rfl rfl ?_
      refine wp_cSI (μ' := mJ6_bitCount_0f7a4) (pc' := 28) dX6_byTurns_25 rfl mlX6_161 cfJ6_bitCount_0f7a4 ⟨(Nat.le_of_ble_eq_true rfl), (Nat.le_of_ble_eq_true rfl)⟩ (sp_bitCount) rfl rfl (Nat.le_of_ble_eq_true rfl) ?_
      refine wp_bipush (pc' := 30) 8 dX6_byTurns_28 rfl (by decide) ?_
      refine wp_icmp_le (pc' := 33) 36 dX6_byTurns_30 rfl (by decide) (fun h30 => ?_) (fun h30 => ?_)
      · refine wp_aload_n (pc' := 37) dX6_byTurns_36 rfl rfl ⟨_, rfl⟩ ?_
        refine wp_get (pc' := 40) (o := 0) dX6_byTurns_37 rfl flX6_34 (by decide) rfl rfl ?_
        refine wp_iload_n (pc' := 41) dX6_byTurns_40 rfl rfl ?_
        refine wp_iload_n (pc' := 42) dX6_byTurns_41 rfl rfl ?_
        refine wp_aload_n (pc' := 43) dX6_byTurns_42 rfl rfl ⟨_, rfl⟩ ?_
        refine wp_cVI (μ' := mX6_bearing) (pc' := 46) (o := 0) dX6_byTurns_43 rfl mlX6_169 cfX6_bearing ⟨(Nat.le_of_ble_eq_true rfl), (Nat.le_of_ble_eq_true rfl)⟩ (sp_bearing) (by decide) rfl rfl rfl rfl rfl (Nat.le_of_ble_eq_true rfl) ?_
        refine wp_aload_n (pc' := 47) dX6_byTurns_46 rfl rfl ⟨_, rfl⟩ ?_
        refine wp_get (pc' := 50) (o := 0) dX6_byTurns_47 rfl flX6_46 (by decide) rfl rfl ?_
        refine wp_get (pc' := 53) (o := 13) dX6_byTurns_50 rfl flX6_138 (by decide) rfl rfl ?_
        refine wp_cVI (μ' := mX1_laidByTurns) (pc' := 56) (o := 10) dX6_byTurns_53 rfl mlX6_185 cfX1_laidByTurns ⟨(Nat.le_of_ble_eq_true rfl), (Nat.le_of_ble_eq_true rfl)⟩ (sp_laidByTurns hs hn he hf) (by decide) rfl rfl rfl rfl rfl (Nat.le_of_ble_eq_true rfl) ?_
        refine wp_ireti dX6_byTurns_56 rfl ?_
        exact ri_ok rfl rfl
      · exact absurd hb h30
    · exact absurd (Or.inr h13) h
def othersF (M : Mem) (a b : Int32) : Int32 := (bearM M &&& (shl 1 a ^^^ (-1))) &&& (shl 1 b ^^^ (-1))
def noApart (M : Mem) (a b : Int32) : Prop := hasF (bearM M) a = 0 ∨ hasF (bearM M) b = 0 ∨ ¬ hasF (nearM M (shl 1 a)) b = 0
theorem sp_apart_bad {g : GG} {M : Mem} {a b : Int32} (h : (isCellF M a = 0 ∨ isCellF M b = 0 ∨ a = b)) : RI g mX6_apart [ob g 0, .int a, .int b] M (-1) M := by
  refine spec_of_wp (ls := [some (ob g 0), some (.int a), some (.int b), none]) rfl (Nat.le_of_ble_eq_true rfl) 1 rfl ?_
  refine wp_aload_n (pc' := 1) dX6_apart_0 rfl rfl ⟨_, rfl⟩ ?_
  refine wp_iload_n (pc' := 2) dX6_apart_1 rfl rfl ?_
  refine wp_cVI (μ' := mX6_isCell) (pc' := 5) (o := 0) dX6_apart_2 rfl mlX6_101 cfX6_isCell ⟨(Nat.le_of_ble_eq_true rfl), (Nat.le_of_ble_eq_true rfl)⟩ (sp_isCell) (by decide) rfl rfl rfl rfl rfl (Nat.le_of_ble_eq_true rfl) ?_
  refine wp_if_eq (pc' := 8) 21 dX6_apart_5 rfl (by decide) (fun h5 => ?_) (fun h5 => ?_)
  · refine wp_iconst (pc' := 22) (-1) dX6_apart_21 rfl (by decide) ?_
    refine wp_ireti dX6_apart_22 rfl ?_
    exact ri_ok rfl rfl
  · refine wp_aload_n (pc' := 9) dX6_apart_8 rfl rfl ⟨_, rfl⟩ ?_
    refine wp_iload_n (pc' := 10) dX6_apart_9 rfl rfl ?_
    refine wp_cVI (μ' := mX6_isCell) (pc' := 13) (o := 0) dX6_apart_10 rfl mlX6_101 cfX6_isCell ⟨(Nat.le_of_ble_eq_true rfl), (Nat.le_of_ble_eq_true rfl)⟩ (sp_isCell) (by decide) rfl rfl rfl rfl rfl (Nat.le_of_ble_eq_true rfl) ?_
    refine wp_if_eq (pc' := 16) 21 dX6_apart_13 rfl (by decide) (fun h13 => ?_) (fun h13 => ?_)
    · refine wp_iconst (pc' := 22) (-1) dX6_apart_21 rfl (by decide) ?_
      refine wp_ireti dX6_apart_22 rfl ?_
      exact ri_ok rfl rfl
    · refine wp_iload_n (pc' := 17) dX6_apart_16 rfl rfl ?_
      refine wp_iload_n (pc' := 18) dX6_apart_17 rfl rfl ?_
      refine wp_icmp_ne (pc' := 21) 23 dX6_apart_18 rfl (by decide) (fun h18 => ?_) (fun h18 => ?_)
      · exact (h.elim h5 (fun h => h.elim h13 h18)).elim
      · refine wp_iconst (pc' := 22) (-1) dX6_apart_21 rfl (by decide) ?_
        refine wp_ireti dX6_apart_22 rfl ?_
        exact ri_ok rfl rfl
theorem sp_apart_state {g : GG} {M : Mem} {a b : Int32} (h : ¬ (isCellF M a = 0 ∨ isCellF M b = 0 ∨ a = b)) (hb : ¬ pcF (othersF M a b) ≤ 12) : RI g mX6_apart [ob g 0, .int a, .int b] M (-2) M := by
  refine spec_of_wp (ls := [some (ob g 0), some (.int a), some (.int b), none]) rfl (Nat.le_of_ble_eq_true rfl) 1 rfl ?_
  refine wp_aload_n (pc' := 1) dX6_apart_0 rfl rfl ⟨_, rfl⟩ ?_
  refine wp_iload_n (pc' := 2) dX6_apart_1 rfl rfl ?_
  refine wp_cVI (μ' := mX6_isCell) (pc' := 5) (o := 0) dX6_apart_2 rfl mlX6_101 cfX6_isCell ⟨(Nat.le_of_ble_eq_true rfl), (Nat.le_of_ble_eq_true rfl)⟩ (sp_isCell) (by decide) rfl rfl rfl rfl rfl (Nat.le_of_ble_eq_true rfl) ?_
  refine wp_if_eq (pc' := 8) 21 dX6_apart_5 rfl (by decide) (fun h5 => ?_) (fun h5 => ?_)
  · exact absurd (Or.inl h5) h
  · refine wp_aload_n (pc' := 9) dX6_apart_8 rfl rfl ⟨_, rfl⟩ ?_
    refine wp_iload_n (pc' := 10) dX6_apart_9 rfl rfl ?_
    refine wp_cVI (μ' := mX6_isCell) (pc' := 13) (o := 0) dX6_apart_10 rfl mlX6_101 cfX6_isCell ⟨(Nat.le_of_ble_eq_true rfl), (Nat.le_of_ble_eq_true rfl)⟩ (sp_isCell) (by decide) rfl rfl rfl rfl rfl (Nat.le_of_ble_eq_true rfl) ?_
    refine wp_if_eq (pc' := 16) 21 dX6_apart_13 rfl (by decide) (fun h13 => ?_) (fun h13 => ?_)
    · exact absurd (Or.inr (Or.inl h13)) h
    · refine wp_iload_n (pc' := 17) dX6_apart_16 rfl rfl ?_
      refine wp_iload_n (pc' := 18) dX6_apart_17 rfl rfl ?_
      refine wp_icmp_ne (pc' := 21) 23 dX6_apart_18 rfl (by decide) (fun h18 => ?_) (fun h18 => ?_)
      · refine wp_aload_n (pc' := 24) dX6_apart_23 rfl rfl ⟨_, rfl⟩ ?_
        refine wp_cVI (μ' := mX6_bearing) (pc' := 27) (o := 0) dX6_apart_24 rfl mlX6_169 cfX6_bearing ⟨(Nat.le_of_ble_eq_true rfl), (Nat.le_of_ble_eq_true rfl)⟩ (sp_bearing) (by decide) rfl rfl rfl rfl rfl (Nat.le_of_ble_eq_true rfl) ?_
        refine wp_iconst (pc' := 28) 1 dX6_apart_27 rfl (by decide) ?_
        refine wp_iload_n (pc' := 29) dX6_apart_28 rfl rfl ?_
        refine wp_ishl (pc' := 30) dX6_apart_29 rfl ?_
        refine wp_iconst (pc' := 31) (-1) dX6_apart_30 rfl (by decide) ?_
        refine wp_ixor (pc' := 32) dX6_apart_31 rfl ?_
        refine wp_iand (pc' := 33) dX6_apart_32 rfl ?_
        refine wp_iconst (pc' := 34) 1 dX6_apart_33 rfl (by decide) ?_
        refine wp_iload_n (pc' := 35) dX6_apart_34 rfl rfl ?_
        refine wp_ishl (pc' := 36) dX6_apart_35 rfl ?_
        refine wp_iconst (pc' := 37) (-1) dX6_apart_36 rfl (by decide) ?_
        refine wp_ixor (pc' := 38) dX6_apart_37 rfl ?_
        refine wp_iand (pc' := 39) dX6_apart_38 rfl ?_
        refine wp_ist3 (pc' := 40) dX6_apart_39 rfl (by decide) rfl ?_
        refine wp_iload_n (pc' := 41) dX6_apart_40 rfl rfl ?_
        refine wp_cSI (μ' := mJ6_bitCount_0f7a4) (pc' := 44) dX6_apart_41 rfl mlX6_161 cfJ6_bitCount_0f7a4 ⟨(Nat.le_of_ble_eq_true rfl), (Nat.le_of_ble_eq_true rfl)⟩ (sp_bitCount) rfl rfl (Nat.le_of_ble_eq_true rfl) ?_
        refine wp_bipush (pc' := 46) 12 dX6_apart_44 rfl (by decide) ?_
        refine wp_icmp_le (pc' := 49) 52 dX6_apart_46 rfl (by decide) (fun h46 => ?_) (fun h46 => ?_)
        · exact absurd h46 hb
        · refine wp_bipush (pc' := 51) (-2) dX6_apart_49 rfl (by decide) ?_
          refine wp_ireti dX6_apart_51 rfl ?_
          exact ri_ok rfl rfl
      · exact absurd (Or.inr (Or.inr h18)) h
theorem sp_apart_none {g : GG} {M : Mem} {a b : Int32} (h : ¬ (isCellF M a = 0 ∨ isCellF M b = 0 ∨ a = b)) (hb : pcF (othersF M a b) ≤ 12) (hn : noApart M a b) : RI g mX6_apart [ob g 0, .int a, .int b] M (-9) M := by
  refine spec_of_wp (ls := [some (ob g 0), some (.int a), some (.int b), none]) rfl (Nat.le_of_ble_eq_true rfl) 1 rfl ?_
  refine wp_aload_n (pc' := 1) dX6_apart_0 rfl rfl ⟨_, rfl⟩ ?_
  refine wp_iload_n (pc' := 2) dX6_apart_1 rfl rfl ?_
  refine wp_cVI (μ' := mX6_isCell) (pc' := 5) (o := 0) dX6_apart_2 rfl mlX6_101 cfX6_isCell ⟨(Nat.le_of_ble_eq_true rfl), (Nat.le_of_ble_eq_true rfl)⟩ (sp_isCell) (by decide) rfl rfl rfl rfl rfl (Nat.le_of_ble_eq_true rfl) ?_
  refine wp_if_eq (pc' := 8) 21 dX6_apart_5 rfl (by decide) (fun h5 => ?_) (fun h5 => ?_)
  · exact absurd (Or.inl h5) h
  · refine wp_aload_n (pc' := 9) dX6_apart_8 rfl rfl ⟨_, rfl⟩ ?_
    refine wp_iload_n (pc' := 10) dX6_apart_9 rfl rfl ?_
    refine wp_cVI (μ' := mX6_isCell) (pc' := 13) (o := 0) dX6_apart_10 rfl mlX6_101 cfX6_isCell ⟨(Nat.le_of_ble_eq_true rfl), (Nat.le_of_ble_eq_true rfl)⟩ (sp_isCell) (by decide) rfl rfl rfl rfl rfl (Nat.le_of_ble_eq_true rfl) ?_
    refine wp_if_eq (pc' := 16) 21 dX6_apart_13 rfl (by decide) (fun h13 => ?_) (fun h13 => ?_)
    · exact absurd (Or.inr (Or.inl h13)) h
    · refine wp_iload_n (pc' := 17) dX6_apart_16 rfl rfl ?_
      refine wp_iload_n (pc' := 18) dX6_apart_17 rfl rfl ?_
      refine wp_icmp_ne (pc' := 21) 23 dX6_apart_18 rfl (by decide) (fun h18 => ?_) (fun h18 => ?_)
      · refine wp_aload_n (pc' := 24) dX6_apart_23 rfl rfl ⟨_, rfl⟩ ?_
        refine wp_cVI (μ' := mX6_bearing) (pc' := 27) (o := 0) dX6_apart_24 rfl mlX6_169 cfX6_bearing ⟨(Nat.le_of_ble_eq_true rfl), (Nat.le_of_ble_eq_true rfl)⟩ (sp_bearing) (by decide) rfl rfl rfl rfl rfl (Nat.le_of_ble_eq_true rfl) ?_
        refine wp_iconst (pc' := 28) 1 dX6_apart_27 rfl (by decide) ?_
        refine wp_iload_n (pc' := 29) dX6_apart_28 rfl rfl ?_
        refine wp_ishl (pc' := 30) dX6_apart_29 rfl ?_
        refine wp_iconst (pc' := 31) (-1) dX6_apart_30 rfl (by decide) ?_
        refine wp_ixor (pc' := 32) dX6_apart_31 rfl ?_
        refine wp_iand (pc' := 33) dX6_apart_32 rfl ?_
        refine wp_iconst (pc' := 34) 1 dX6_apart_33 rfl (by decide) ?_
        refine wp_iload_n (pc' := 35) dX6_apart_34 rfl rfl ?_
        refine wp_ishl (pc' := 36) dX6_apart_35 rfl ?_
        refine wp_iconst (pc' := 37) (-1) dX6_apart_36 rfl (by decide) ?_
        refine wp_ixor (pc' := 38) dX6_apart_37 rfl ?_
        refine wp_iand (pc' := 39) dX6_apart_38 rfl ?_
        refine wp_ist3 (pc' := 40) dX6_apart_39 rfl (by decide) rfl ?_
        refine wp_iload_n (pc' := 41) dX6_apart_40 rfl rfl ?_
        refine wp_cSI (μ' := mJ6_bitCount_0f7a4) (pc' := 44) dX6_apart_41 rfl mlX6_161 cfJ6_bitCount_0f7a4 ⟨(Nat.le_of_ble_eq_true rfl), (Nat.le_of_ble_eq_true rfl)⟩ (sp_bitCount) rfl rfl (Nat.le_of_ble_eq_true rfl) ?_
        refine wp_bipush (pc' := 46) 12 dX6_apart_44 rfl (by decide) ?_
        refine wp_icmp_le (pc' := 49) 52 dX6_apart_46 rfl (by decide) (fun h46 => ?_) (fun h46 => ?_)
        · refine wp_aload_n (pc' := 53) dX6_apart_52 rfl rfl ⟨_, rfl⟩ ?_
          refine wp_cVI (μ' := mX6_bearing) (pc' := 56) (o := 0) dX6_apart_53 rfl mlX6_169 cfX6_bearing ⟨(Nat.le_of_ble_eq_true rfl), (Nat.le_of_ble_eq_true rfl)⟩ (sp_bearing) (by decide) rfl rfl rfl rfl rfl (Nat.le_of_ble_eq_true rfl) ?_
          refine wp_iload_n (pc' := 57) dX6_apart_56 rfl rfl ?_
          refine wp_cSI (μ' := mX6_has) (pc' := 60) dX6_apart_57 rfl mlX6_141 cfX6_has ⟨(Nat.le_of_ble_eq_true rfl), (Nat.le_of_ble_eq_true rfl)⟩ (sp_has) rfl rfl (Nat.le_of_ble_eq_true rfl) ?_
          refine wp_if_eq (pc' := 63) 91 dX6_apart_60 rfl (by decide) (fun h60 => ?_) (fun h60 => ?_)
          · refine wp_bipush (pc' := 93) (-9) dX6_apart_91 rfl (by decide) ?_
            refine wp_ireti dX6_apart_93 rfl ?_
            exact ri_ok rfl rfl
          · refine wp_aload_n (pc' := 64) dX6_apart_63 rfl rfl ⟨_, rfl⟩ ?_
            refine wp_cVI (μ' := mX6_bearing) (pc' := 67) (o := 0) dX6_apart_64 rfl mlX6_169 cfX6_bearing ⟨(Nat.le_of_ble_eq_true rfl), (Nat.le_of_ble_eq_true rfl)⟩ (sp_bearing) (by decide) rfl rfl rfl rfl rfl (Nat.le_of_ble_eq_true rfl) ?_
            refine wp_iload_n (pc' := 68) dX6_apart_67 rfl rfl ?_
            refine wp_cSI (μ' := mX6_has) (pc' := 71) dX6_apart_68 rfl mlX6_141 cfX6_has ⟨(Nat.le_of_ble_eq_true rfl), (Nat.le_of_ble_eq_true rfl)⟩ (sp_has) rfl rfl (Nat.le_of_ble_eq_true rfl) ?_
            refine wp_if_eq (pc' := 74) 91 dX6_apart_71 rfl (by decide) (fun h71 => ?_) (fun h71 => ?_)
            · refine wp_bipush (pc' := 93) (-9) dX6_apart_91 rfl (by decide) ?_
              refine wp_ireti dX6_apart_93 rfl ?_
              exact ri_ok rfl rfl
            · refine wp_aload_n (pc' := 75) dX6_apart_74 rfl rfl ⟨_, rfl⟩ ?_
              refine wp_get (pc' := 78) (o := 0) dX6_apart_75 rfl flX6_42 (by decide) rfl rfl ?_
              refine wp_iconst (pc' := 79) 1 dX6_apart_78 rfl (by decide) ?_
              refine wp_iload_n (pc' := 80) dX6_apart_79 rfl rfl ?_
              refine wp_ishl (pc' := 81) dX6_apart_80 rfl ?_
              refine wp_cVI (μ' := mX5_near) (pc' := 84) (o := 11) dX6_apart_81 rfl mlX6_189 cfX5_near ⟨(Nat.le_of_ble_eq_true rfl), (Nat.le_of_ble_eq_true rfl)⟩ (sp_near) (by decide) rfl rfl rfl rfl rfl (Nat.le_of_ble_eq_true rfl) ?_
              refine wp_iload_n (pc' := 85) dX6_apart_84 rfl rfl ?_
              refine wp_cSI (μ' := mX6_has) (pc' := 88) dX6_apart_85 rfl mlX6_141 cfX6_has ⟨(Nat.le_of_ble_eq_true rfl), (Nat.le_of_ble_eq_true rfl)⟩ (sp_has) rfl rfl (Nat.le_of_ble_eq_true rfl) ?_
              refine wp_if_eq (pc' := 91) 94 dX6_apart_88 rfl (by decide) (fun h88 => ?_) (fun h88 => ?_)
              · exact (hn.elim h60 (fun h => h.elim h71 (fun h => h h88))).elim
              · refine wp_bipush (pc' := 93) (-9) dX6_apart_91 rfl (by decide) ?_
                refine wp_ireti dX6_apart_93 rfl ?_
                exact ri_ok rfl rfl
        · exact absurd hb h46
      · exact absurd (Or.inr (Or.inr h18)) h
theorem sp_apart {g : GG} {M : Mem} {a b : Int32} {s : Nat} (hs : s < 2 ^ 31) (he : shl 1 (pcF (othersF M a b)) = nI s) (h : ¬ (isCellF M a = 0 ∨ isCellF M b = 0 ∨ a = b)) (hb : pcF (othersF M a b) ≤ 12) (hn : ¬ noApart M a b) : RI g mX6_apart [ob g 0, .int a, .int b] M (faF (nearM M) a b (othersF M a b) (shl 1 a ||| shl 1 b) s 0 (pcF (nearM M (shl 1 a) &&& othersF M a b))) M := by
  refine spec_of_wp (ls := [some (ob g 0), some (.int a), some (.int b), none]) rfl (Nat.le_of_ble_eq_true rfl) 1 rfl ?_
  refine wp_aload_n (pc' := 1) dX6_apart_0 rfl rfl ⟨_, rfl⟩ ?_
  refine wp_iload_n (pc' := 2) dX6_apart_1 rfl rfl ?_
  refine wp_cVI (μ' := mX6_isCell) (pc' := 5) (o := 0) dX6_apart_2 rfl mlX6_101 cfX6_isCell ⟨(Nat.le_of_ble_eq_true rfl), (Nat.le_of_ble_eq_true rfl)⟩ (sp_isCell) (by decide) rfl rfl rfl rfl rfl (Nat.le_of_ble_eq_true rfl) ?_
  refine wp_if_eq (pc' := 8) 21 dX6_apart_5 rfl (by decide) (fun h5 => ?_) (fun h5 => ?_)
  · exact absurd (Or.inl h5) h
  · refine wp_aload_n (pc' := 9) dX6_apart_8 rfl rfl ⟨_, rfl⟩ ?_
    refine wp_iload_n (pc' := 10) dX6_apart_9 rfl rfl ?_
    refine wp_cVI (μ' := mX6_isCell) (pc' := 13) (o := 0) dX6_apart_10 rfl mlX6_101 cfX6_isCell ⟨(Nat.le_of_ble_eq_true rfl), (Nat.le_of_ble_eq_true rfl)⟩ (sp_isCell) (by decide) rfl rfl rfl rfl rfl (Nat.le_of_ble_eq_true rfl) ?_
    refine wp_if_eq (pc' := 16) 21 dX6_apart_13 rfl (by decide) (fun h13 => ?_) (fun h13 => ?_)
    · exact absurd (Or.inr (Or.inl h13)) h
    · refine wp_iload_n (pc' := 17) dX6_apart_16 rfl rfl ?_
      refine wp_iload_n (pc' := 18) dX6_apart_17 rfl rfl ?_
      refine wp_icmp_ne (pc' := 21) 23 dX6_apart_18 rfl (by decide) (fun h18 => ?_) (fun h18 => ?_)
      · refine wp_aload_n (pc' := 24) dX6_apart_23 rfl rfl ⟨_, rfl⟩ ?_
        refine wp_cVI (μ' := mX6_bearing) (pc' := 27) (o := 0) dX6_apart_24 rfl mlX6_169 cfX6_bearing ⟨(Nat.le_of_ble_eq_true rfl), (Nat.le_of_ble_eq_true rfl)⟩ (sp_bearing) (by decide) rfl rfl rfl rfl rfl (Nat.le_of_ble_eq_true rfl) ?_
        refine wp_iconst (pc' := 28) 1 dX6_apart_27 rfl (by decide) ?_
        refine wp_iload_n (pc' := 29) dX6_apart_28 rfl rfl ?_
        refine wp_ishl (pc' := 30) dX6_apart_29 rfl ?_
        refine wp_iconst (pc' := 31) (-1) dX6_apart_30 rfl (by decide) ?_
        refine wp_ixor (pc' := 32) dX6_apart_31 rfl ?_
        refine wp_iand (pc' := 33) dX6_apart_32 rfl ?_
        refine wp_iconst (pc' := 34) 1 dX6_apart_33 rfl (by decide) ?_
        refine wp_iload_n (pc' := 35) dX6_apart_34 rfl rfl ?_
        refine wp_ishl (pc' := 36) dX6_apart_35 rfl ?_
        refine wp_iconst (pc' := 37) (-1) dX6_apart_36 rfl (by decide) ?_
        refine wp_ixor (pc' := 38) dX6_apart_37 rfl ?_
        refine wp_iand (pc' := 39) dX6_apart_38 rfl ?_
        refine wp_ist3 (pc' := 40) dX6_apart_39 rfl (by decide) rfl ?_
        refine wp_iload_n (pc' := 41) dX6_apart_40 rfl rfl ?_
        refine wp_cSI (μ' := mJ6_bitCount_0f7a4) (pc' := 44) dX6_apart_41 rfl mlX6_161 cfJ6_bitCount_0f7a4 ⟨(Nat.le_of_ble_eq_true rfl), (Nat.le_of_ble_eq_true rfl)⟩ (sp_bitCount) rfl rfl (Nat.le_of_ble_eq_true rfl) ?_
        refine wp_bipush (pc' := 46) 12 dX6_apart_44 rfl (by decide) ?_
        refine wp_icmp_le (pc' := 49) 52 dX6_apart_46 rfl (by decide) (fun h46 => ?_) (fun h46 => ?_)
        · refine wp_aload_n (pc' := 53) dX6_apart_52 rfl rfl ⟨_, rfl⟩ ?_
          refine wp_cVI (μ' := mX6_bearing) (pc' := 56) (o := 0) dX6_apart_53 rfl mlX6_169 cfX6_bearing ⟨(Nat.le_of_ble_eq_true rfl), (Nat.le_of_ble_eq_true rfl)⟩ (sp_bearing) (by decide) rfl rfl rfl rfl rfl (Nat.le_of_ble_eq_true rfl) ?_
          refine wp_iload_n (pc' := 57) dX6_apart_56 rfl rfl ?_
          refine wp_cSI (μ' := mX6_has) (pc' := 60) dX6_apart_57 rfl mlX6_141 cfX6_has ⟨(Nat.le_of_ble_eq_true rfl), (Nat.le_of_ble_eq_true rfl)⟩ (sp_has) rfl rfl (Nat.le_of_ble_eq_true rfl) ?_
          refine wp_if_eq (pc' := 63) 91 dX6_apart_60 rfl (by decide) (fun h60 => ?_) (fun h60 => ?_)
          · exact absurd (Or.inl h60) hn
          · refine wp_aload_n (pc' := 64) dX6_apart_63 rfl rfl ⟨_, rfl⟩ ?_
            refine wp_cVI (μ' := mX6_bearing) (pc' := 67) (o := 0) dX6_apart_64 rfl mlX6_169 cfX6_bearing ⟨(Nat.le_of_ble_eq_true rfl), (Nat.le_of_ble_eq_true rfl)⟩ (sp_bearing) (by decide) rfl rfl rfl rfl rfl (Nat.le_of_ble_eq_true rfl) ?_
            refine wp_iload_n (pc' := 68) dX6_apart_67 rfl rfl ?_
            refine wp_cSI (μ' := mX6_has) (pc' := 71) dX6_apart_68 rfl mlX6_141 cfX6_has ⟨(Nat.le_of_ble_eq_true rfl), (Nat.le_of_ble_eq_true rfl)⟩ (sp_has) rfl rfl (Nat.le_of_ble_eq_true rfl) ?_
            refine wp_if_eq (pc' := 74) 91 dX6_apart_71 rfl (by decide) (fun h71 => ?_) (fun h71 => ?_)
            · exact absurd (Or.inr (Or.inl h71)) hn
            · refine wp_aload_n (pc' := 75) dX6_apart_74 rfl rfl ⟨_, rfl⟩ ?_
              refine wp_get (pc' := 78) (o := 0) dX6_apart_75 rfl flX6_42 (by decide) rfl rfl ?_
              refine wp_iconst (pc' := 79) 1 dX6_apart_78 rfl (by decide) ?_
              refine wp_iload_n (pc' := 80) dX6_apart_79 rfl rfl ?_
              refine wp_ishl (pc' := 81) dX6_apart_80 rfl ?_
              refine wp_cVI (μ' := mX5_near) (pc' := 84) (o := 11) dX6_apart_81 rfl mlX6_189 cfX5_near ⟨(Nat.le_of_ble_eq_true rfl), (Nat.le_of_ble_eq_true rfl)⟩ (sp_near) (by decide) rfl rfl rfl rfl rfl (Nat.le_of_ble_eq_true rfl) ?_
              refine wp_iload_n (pc' := 85) dX6_apart_84 rfl rfl ?_
              refine wp_cSI (μ' := mX6_has) (pc' := 88) dX6_apart_85 rfl mlX6_141 cfX6_has ⟨(Nat.le_of_ble_eq_true rfl), (Nat.le_of_ble_eq_true rfl)⟩ (sp_has) rfl rfl (Nat.le_of_ble_eq_true rfl) ?_
              refine wp_if_eq (pc' := 91) 94 dX6_apart_88 rfl (by decide) (fun h88 => ?_) (fun h88 => ?_)
              · refine wp_aload_n (pc' := 95) dX6_apart_94 rfl rfl ⟨_, rfl⟩ ?_
                refine wp_get (pc' := 98) (o := 0) dX6_apart_95 rfl flX6_34 (by decide) rfl rfl ?_
                refine wp_iload_n (pc' := 99) dX6_apart_98 rfl rfl ?_
                refine wp_iload_n (pc' := 100) dX6_apart_99 rfl rfl ?_
                refine wp_iload_n (pc' := 101) dX6_apart_100 rfl rfl ?_
                refine wp_cVI (μ' := mX1_fewestApart) (pc' := 104) (o := 10) dX6_apart_101 rfl mlX6_192 cfX1_fewestApart ⟨(Nat.le_of_ble_eq_true rfl), (Nat.le_of_ble_eq_true rfl)⟩ (sp_fewestApart hs he) (by decide) rfl rfl rfl rfl rfl (Nat.le_of_ble_eq_true rfl) ?_
                refine wp_ireti dX6_apart_104 rfl ?_
                exact ri_ok rfl rfl
              · exact absurd (Or.inr (Or.inr h88)) hn
        · exact absurd hb h46
      · exact absurd (Or.inr (Or.inr h18)) h
def stM (M : Mem) (k : Int32) : Int32 := fsF (nearM M) (atF 4 (M.1 5) k) (atF 4 (M.1 6) k) (bearM M)
def rwV (M : Mem) (k : Int32) : Int32 := maxF (stM M k) 0
def trc (M : Mem) (x : Int64) : Mem := upT M 0 (M.2 0 + x)
theorem sp_rateWalker {g : GG} {M : Mem} {k : Int32} : RI g mX6_rateWalker [ob g 0, .int k] M (rwV M k) (trc M 1) := by
  refine spec_of_wp (ls := [some (ob g 0), some (.int k)]) rfl (Nat.le_of_ble_eq_true rfl) 0 rfl ?_
  refine wp_aload_n (pc' := 1) dX6_rateWalker_0 rfl rfl ⟨_, rfl⟩ ?_
  refine wp_dup (pc' := 2) dX6_rateWalker_1 rfl rfl ?_
  refine wp_get (pc' := 5) (o := 0) dX6_rateWalker_2 rfl flX6_56 (by decide) rfl rfl ?_
  refine wp_lconst (pc' := 6) 1 dX6_rateWalker_5 rfl (by decide) ?_
  refine wp_ladd (pc' := 7) dX6_rateWalker_6 rfl ?_
  refine wp_putl (pc' := 10) (o := 0) dX6_rateWalker_7 rfl fpX6_56 (by decide) rfl (Nat.le_of_ble_eq_true rfl) rfl ?_
  refine wp_aload_n (pc' := 11) dX6_rateWalker_10 rfl rfl ⟨_, rfl⟩ ?_
  refine wp_iload_n (pc' := 12) dX6_rateWalker_11 rfl rfl ?_
  refine wp_cVI (μ' := mX6_stepsOf) (pc' := 15) (o := 0) dX6_rateWalker_12 rfl mlX6_135 cfX6_stepsOf ⟨(Nat.le_of_ble_eq_true rfl), (Nat.le_of_ble_eq_true rfl)⟩ (sp_stepsOf) (by decide) rfl rfl rfl rfl rfl (Nat.le_of_ble_eq_true rfl) ?_
  refine wp_iconst (pc' := 16) 0 dX6_rateWalker_15 rfl (by decide) ?_
  refine wp_mmax (pc' := 19) dX6_rateWalker_16 rfl mlX6_237 (Nat.le_of_ble_eq_true rfl) (Nat.le_of_ble_eq_true rfl) ?_
  refine wp_ireti dX6_rateWalker_19 rfl ?_
  exact ri_ok rfl rfl
theorem sp_ratePilgrim {g : GG} {M : Mem} {k : Int32} : RI g mX6_ratePilgrim [ob g 0, .int k] M (rwV M k + atF 4 (M.1 16) k) (trc (trc M 10) 1) := by
  refine spec_of_wp (ls := [some (ob g 0), some (.int k)]) rfl (Nat.le_of_ble_eq_true rfl) 0 rfl ?_
  refine wp_aload_n (pc' := 1) dX6_ratePilgrim_0 rfl rfl ⟨_, rfl⟩ ?_
  refine wp_dup (pc' := 2) dX6_ratePilgrim_1 rfl rfl ?_
  refine wp_get (pc' := 5) (o := 0) dX6_ratePilgrim_2 rfl flX6_56 (by decide) rfl rfl ?_
  refine wp_ldc2 (pc' := 8) (10) dX6_ratePilgrim_5 rfl (wR28 _ (List.mem_of_getElem? (i := 4) rfl)) ?_
  refine wp_ladd (pc' := 9) dX6_ratePilgrim_8 rfl ?_
  refine wp_putl (pc' := 12) (o := 0) dX6_ratePilgrim_9 rfl fpX6_56 (by decide) rfl (Nat.le_of_ble_eq_true rfl) rfl ?_
  refine wp_aload_n (pc' := 13) dX6_ratePilgrim_12 rfl rfl ⟨_, rfl⟩ ?_
  refine wp_iload_n (pc' := 14) dX6_ratePilgrim_13 rfl rfl ?_
  refine wp_cVI (μ' := mX6_rateWalker) (pc' := 17) (o := 0) dX6_ratePilgrim_14 rfl mlX6_196 cfX6_rateWalker ⟨(Nat.le_of_ble_eq_true rfl), (Nat.le_of_ble_eq_true rfl)⟩ (sp_rateWalker) (by decide) rfl rfl rfl rfl rfl (Nat.le_of_ble_eq_true rfl) ?_
  refine wp_aload_n (pc' := 18) dX6_ratePilgrim_17 rfl rfl ⟨_, rfl⟩ ?_
  refine wp_get (pc' := 21) (o := 0) dX6_ratePilgrim_18 rfl flX6_46 (by decide) rfl rfl ?_
  refine wp_get (pc' := 24) (o := 13) dX6_ratePilgrim_21 rfl flX6_129 (by decide) rfl rfl ?_
  refine wp_iload_n (pc' := 25) dX6_ratePilgrim_24 rfl rfl ?_
  refine wp_cSI (μ' := mX6_at) (pc' := 28) dX6_ratePilgrim_25 rfl mlX6_113 cfX6_at ⟨(Nat.le_of_ble_eq_true rfl), (Nat.le_of_ble_eq_true rfl)⟩ (sp_at arr16) rfl rfl (Nat.le_of_ble_eq_true rfl) ?_
  refine wp_iadd (pc' := 29) dX6_ratePilgrim_28 rfl ?_
  refine wp_ireti dX6_ratePilgrim_29 rfl ?_
  exact ri_ok rfl rfl
theorem lbF_congr {M M' : Mem} (h : M.1 = M'.1) (k : Int32) : ∀ (n j : Nat) (t : Int32), lbF M k n j t = lbF M' k n j t := by
  intro n
  induction n with
  | zero => intro j t; rfl
  | succ n ih => intro j t; rw [lbF, lbF, h, ih, ih]
theorem sp_rateShepherd {g : GG} {M : Mem} {k : Int32} : RI g mX6_rateShepherd [ob g 0, .int k] M (rwV M k - lbF M k 24 0 0) (trc (trc M 100) 1) := by
  refine spec_of_wp (ls := [some (ob g 0), some (.int k)]) rfl (Nat.le_of_ble_eq_true rfl) 0 rfl ?_
  refine wp_aload_n (pc' := 1) dX6_rateShepherd_0 rfl rfl ⟨_, rfl⟩ ?_
  refine wp_dup (pc' := 2) dX6_rateShepherd_1 rfl rfl ?_
  refine wp_get (pc' := 5) (o := 0) dX6_rateShepherd_2 rfl flX6_56 (by decide) rfl rfl ?_
  refine wp_ldc2 (pc' := 8) (100) dX6_rateShepherd_5 rfl (wR28 _ (List.mem_of_getElem? (i := 9) rfl)) ?_
  refine wp_ladd (pc' := 9) dX6_rateShepherd_8 rfl ?_
  refine wp_putl (pc' := 12) (o := 0) dX6_rateShepherd_9 rfl fpX6_56 (by decide) rfl (Nat.le_of_ble_eq_true rfl) rfl ?_
  refine wp_aload_n (pc' := 13) dX6_rateShepherd_12 rfl rfl ⟨_, rfl⟩ ?_
  refine wp_iload_n (pc' := 14) dX6_rateShepherd_13 rfl rfl ?_
  refine wp_cVI (μ' := mX6_rateWalker) (pc' := 17) (o := 0) dX6_rateShepherd_14 rfl mlX6_196 cfX6_rateWalker ⟨(Nat.le_of_ble_eq_true rfl), (Nat.le_of_ble_eq_true rfl)⟩ (sp_rateWalker) (by decide) rfl rfl rfl rfl rfl (Nat.le_of_ble_eq_true rfl) ?_
  refine wp_aload_n (pc' := 18) dX6_rateShepherd_17 rfl rfl ⟨_, rfl⟩ ?_
  refine wp_get (pc' := 21) (o := 0) dX6_rateShepherd_18 rfl flX6_46 (by decide) rfl rfl ?_
  refine wp_iload_n (pc' := 22) dX6_rateShepherd_21 rfl rfl ?_
  refine wp_cVI (μ' := mX0_laidBy) (pc' := 25) (o := 13) dX6_rateShepherd_22 rfl mlX6_132 cfX0_laidBy ⟨(Nat.le_of_ble_eq_true rfl), (Nat.le_of_ble_eq_true rfl)⟩ (sp_laidBy) (by decide) rfl rfl rfl rfl rfl (Nat.le_of_ble_eq_true rfl) ?_
  refine wp_isub (pc' := 26) dX6_rateShepherd_25 rfl ?_
  refine wp_ireti dX6_rateShepherd_26 rfl ?_
  exact ri_ok (by rw [lbF_congr (M' := M) rfl]; rfl) rfl
theorem sp_rateMonk {g : GG} {M : Mem} {k : Int32} : RI g mX6_rateMonk [ob g 0, .int k] M (2 * (rwV M k + atF 4 (M.1 16) k)) (trc (trc (trc M 1000) 10) 1) := by
  refine spec_of_wp (ls := [some (ob g 0), some (.int k)]) rfl (Nat.le_of_ble_eq_true rfl) 0 rfl ?_
  refine wp_aload_n (pc' := 1) dX6_rateMonk_0 rfl rfl ⟨_, rfl⟩ ?_
  refine wp_dup (pc' := 2) dX6_rateMonk_1 rfl rfl ?_
  refine wp_get (pc' := 5) (o := 0) dX6_rateMonk_2 rfl flX6_56 (by decide) rfl rfl ?_
  refine wp_ldc2 (pc' := 8) (1000) dX6_rateMonk_5 rfl (wR28 _ (List.mem_of_getElem? (i := 14) rfl)) ?_
  refine wp_ladd (pc' := 9) dX6_rateMonk_8 rfl ?_
  refine wp_putl (pc' := 12) (o := 0) dX6_rateMonk_9 rfl fpX6_56 (by decide) rfl (Nat.le_of_ble_eq_true rfl) rfl ?_
  refine wp_iconst (pc' := 13) 2 dX6_rateMonk_12 rfl (by decide) ?_
  refine wp_aload_n (pc' := 14) dX6_rateMonk_13 rfl rfl ⟨_, rfl⟩ ?_
  refine wp_iload_n (pc' := 15) dX6_rateMonk_14 rfl rfl ?_
  refine wp_cVI (μ' := mX6_ratePilgrim) (pc' := 18) (o := 0) dX6_rateMonk_15 rfl mlX6_199 cfX6_ratePilgrim ⟨(Nat.le_of_ble_eq_true rfl), (Nat.le_of_ble_eq_true rfl)⟩ (sp_ratePilgrim) (by decide) rfl rfl rfl rfl rfl (Nat.le_of_ble_eq_true rfl) ?_
  refine wp_imul (pc' := 19) dX6_rateMonk_18 rfl ?_
  refine wp_ireti dX6_rateMonk_19 rfl ?_
  exact ri_ok rfl rfl
theorem sp_rateThief {g : GG} {M : Mem} {k : Int32} : RI g mX6_rateThief [ob g 0, .int k] M ((rwV M k - lbF M k 24 0 0) + k) (trc (trc (trc M 10000) 100) 1) := by
  refine spec_of_wp (ls := [some (ob g 0), some (.int k)]) rfl (Nat.le_of_ble_eq_true rfl) 0 rfl ?_
  refine wp_aload_n (pc' := 1) dX6_rateThief_0 rfl rfl ⟨_, rfl⟩ ?_
  refine wp_dup (pc' := 2) dX6_rateThief_1 rfl rfl ?_
  refine wp_get (pc' := 5) (o := 0) dX6_rateThief_2 rfl flX6_56 (by decide) rfl rfl ?_
  refine wp_ldc2 (pc' := 8) (10000) dX6_rateThief_5 rfl (wR28 _ (List.mem_of_getElem? (i := 19) rfl)) ?_
  refine wp_ladd (pc' := 9) dX6_rateThief_8 rfl ?_
  refine wp_putl (pc' := 12) (o := 0) dX6_rateThief_9 rfl fpX6_56 (by decide) rfl (Nat.le_of_ble_eq_true rfl) rfl ?_
  refine wp_aload_n (pc' := 13) dX6_rateThief_12 rfl rfl ⟨_, rfl⟩ ?_
  refine wp_iload_n (pc' := 14) dX6_rateThief_13 rfl rfl ?_
  refine wp_cVI (μ' := mX6_rateShepherd) (pc' := 17) (o := 0) dX6_rateThief_14 rfl mlX6_202 cfX6_rateShepherd ⟨(Nat.le_of_ble_eq_true rfl), (Nat.le_of_ble_eq_true rfl)⟩ (sp_rateShepherd) (by decide) rfl rfl rfl rfl rfl (Nat.le_of_ble_eq_true rfl) ?_
  refine wp_iload_n (pc' := 18) dX6_rateThief_17 rfl rfl ?_
  refine wp_iadd (pc' := 19) dX6_rateThief_18 rfl ?_
  refine wp_ireti dX6_rateThief_19 rfl ?_
  exact ri_ok (by rw [lbF_congr (M' := M) rfl]; rfl) rfl
theorem sp_rateChild {g : GG} {M : Mem} {k : Int32} : RI g mX6_rateChild [ob g 0, .int k] M (rwV M k + stonesF (nearM M) (atF 4 (M.1 5) k) (atF 4 (M.1 6) k) (bearM M)) (trc (trc M 100000) 1) := by
  refine spec_of_wp (ls := [some (ob g 0), some (.int k)]) rfl (Nat.le_of_ble_eq_true rfl) 0 rfl ?_
  refine wp_aload_n (pc' := 1) dX6_rateChild_0 rfl rfl ⟨_, rfl⟩ ?_
  refine wp_dup (pc' := 2) dX6_rateChild_1 rfl rfl ?_
  refine wp_get (pc' := 5) (o := 0) dX6_rateChild_2 rfl flX6_56 (by decide) rfl rfl ?_
  refine wp_ldc2 (pc' := 8) (100000) dX6_rateChild_5 rfl (wR29 _ (List.mem_of_getElem? (i := 0) rfl)) ?_
  refine wp_ladd (pc' := 9) dX6_rateChild_8 rfl ?_
  refine wp_putl (pc' := 12) (o := 0) dX6_rateChild_9 rfl fpX6_56 (by decide) rfl (Nat.le_of_ble_eq_true rfl) rfl ?_
  refine wp_aload_n (pc' := 13) dX6_rateChild_12 rfl rfl ⟨_, rfl⟩ ?_
  refine wp_iload_n (pc' := 14) dX6_rateChild_13 rfl rfl ?_
  refine wp_cVI (μ' := mX6_rateWalker) (pc' := 17) (o := 0) dX6_rateChild_14 rfl mlX6_196 cfX6_rateWalker ⟨(Nat.le_of_ble_eq_true rfl), (Nat.le_of_ble_eq_true rfl)⟩ (sp_rateWalker) (by decide) rfl rfl rfl rfl rfl (Nat.le_of_ble_eq_true rfl) ?_
  refine wp_aload_n (pc' := 18) dX6_rateChild_17 rfl rfl ⟨_, rfl⟩ ?_
  refine wp_get (pc' := 21) (o := 0) dX6_rateChild_18 rfl flX6_42 (by decide) rfl rfl ?_
  refine wp_aload_n (pc' := 22) dX6_rateChild_21 rfl rfl ⟨_, rfl⟩ ?_
  refine wp_get (pc' := 25) (o := 0) dX6_rateChild_22 rfl flX6_24 (by decide) rfl rfl ?_
  refine wp_get (pc' := 28) (o := 4) dX6_rateChild_25 rfl flX6_123 (by decide) rfl rfl ?_
  refine wp_iload_n (pc' := 29) dX6_rateChild_28 rfl rfl ?_
  refine wp_cSI (μ' := mX6_at) (pc' := 32) dX6_rateChild_29 rfl mlX6_113 cfX6_at ⟨(Nat.le_of_ble_eq_true rfl), (Nat.le_of_ble_eq_true rfl)⟩ (sp_at arr5) rfl rfl (Nat.le_of_ble_eq_true rfl) ?_
  refine wp_aload_n (pc' := 33) dX6_rateChild_32 rfl rfl ⟨_, rfl⟩ ?_
  refine wp_get (pc' := 36) (o := 0) dX6_rateChild_33 rfl flX6_24 (by decide) rfl rfl ?_
  refine wp_get (pc' := 39) (o := 4) dX6_rateChild_36 rfl flX6_126 (by decide) rfl rfl ?_
  refine wp_iload_n (pc' := 40) dX6_rateChild_39 rfl rfl ?_
  refine wp_cSI (μ' := mX6_at) (pc' := 43) dX6_rateChild_40 rfl mlX6_113 cfX6_at ⟨(Nat.le_of_ble_eq_true rfl), (Nat.le_of_ble_eq_true rfl)⟩ (sp_at arr6) rfl rfl (Nat.le_of_ble_eq_true rfl) ?_
  refine wp_aload_n (pc' := 44) dX6_rateChild_43 rfl rfl ⟨_, rfl⟩ ?_
  refine wp_cVI (μ' := mX6_bearing) (pc' := 47) (o := 0) dX6_rateChild_44 rfl mlX6_169 cfX6_bearing ⟨(Nat.le_of_ble_eq_true rfl), (Nat.le_of_ble_eq_true rfl)⟩ (sp_bearing) (by decide) rfl rfl rfl rfl rfl (Nat.le_of_ble_eq_true rfl) ?_
  refine wp_cVI (μ' := mX5_fewestStones) (pc' := 50) (o := 11) dX6_rateChild_47 rfl mlX6_179 cfX5_fewestStones ⟨(Nat.le_of_ble_eq_true rfl), (Nat.le_of_ble_eq_true rfl)⟩ (sp_fewestStones) (by decide) rfl rfl rfl rfl rfl (Nat.le_of_ble_eq_true rfl) ?_
  refine wp_iadd (pc' := 51) dX6_rateChild_50 rfl ?_
  refine wp_ireti dX6_rateChild_51 rfl ?_
  exact ri_ok rfl rfl
def rateV (M : Mem) (kind k : Int32) : Int32 := if isWalkerF M k = 0 then -1000000 else if kind = 0 then rwV M k else if kind = 1 then rwV M k + atF 4 (M.1 16) k else if kind = 2 then rwV M k - lbF M k 24 0 0 else if kind = 3 then 2 * (rwV M k + atF 4 (M.1 16) k) else if kind = 4 then (rwV M k - lbF M k 24 0 0) + k else if kind = 5 then rwV M k + stonesF (nearM M) (atF 4 (M.1 5) k) (atF 4 (M.1 6) k) (bearM M) else -1000000
def rateM (M : Mem) (kind k : Int32) : Mem := if isWalkerF M k = 0 then M else if kind = 0 then trc M 1 else if kind = 1 then trc (trc M 10) 1 else if kind = 2 then trc (trc M 100) 1 else if kind = 3 then trc (trc (trc M 1000) 10) 1 else if kind = 4 then trc (trc (trc M 10000) 100) 1 else if kind = 5 then trc (trc M 100000) 1 else M
theorem sp_rate {g : GG} {M : Mem} {kind k : Int32} : RI g mX6_rate [ob g 0, .int kind, .int k] M (rateV M kind k) (rateM M kind k) := by
  refine spec_of_wp (ls := [some (ob g 0), some (.int kind), some (.int k)]) rfl (Nat.le_of_ble_eq_true rfl) 0 rfl ?_
  refine wp_aload_n (pc' := 1) dX6_rate_0 rfl rfl ⟨_, rfl⟩ ?_
  refine wp_iload_n (pc' := 2) dX6_rate_1 rfl rfl ?_
  refine wp_cVI (μ' := mX6_isWalker) (pc' := 5) (o := 0) dX6_rate_2 rfl mlX6_120 cfX6_isWalker ⟨(Nat.le_of_ble_eq_true rfl), (Nat.le_of_ble_eq_true rfl)⟩ (sp_isWalker) (by decide) rfl rfl rfl rfl rfl (Nat.le_of_ble_eq_true rfl) ?_
  refine wp_if_ne (pc' := 8) 11 dX6_rate_5 rfl (by decide) (fun h5 => ?_) (fun h5 => ?_)
  · refine wp_iload_n (pc' := 12) dX6_rate_11 rfl rfl ?_
    rcases tsw_6 kind with rfl | rfl | rfl | rfl | rfl | rfl | h12
    · refine wp_tin (off := 40) 52 dX6_rate_12 (by decide) (by decide) (by decide) (by decide) ?_
      refine wp_aload_n (pc' := 53) dX6_rate_52 rfl rfl ⟨_, rfl⟩ ?_
      refine wp_iload_n (pc' := 54) dX6_rate_53 rfl rfl ?_
      refine wp_cVI (μ' := mX6_rateWalker) (pc' := 57) (o := 0) dX6_rate_54 rfl mlX6_196 cfX6_rateWalker ⟨(Nat.le_of_ble_eq_true rfl), (Nat.le_of_ble_eq_true rfl)⟩ (sp_rateWalker) (by decide) rfl rfl rfl rfl rfl (Nat.le_of_ble_eq_true rfl) ?_
      refine wp_ireti dX6_rate_57 rfl ?_
      exact ri_ok (by rw [rateV, if_neg h5, if_pos rfl]) (by rw [rateM, if_neg h5, if_pos rfl])
    · refine wp_tin (off := 46) 58 dX6_rate_12 (by decide) (by decide) (by decide) (by decide) ?_
      refine wp_aload_n (pc' := 59) dX6_rate_58 rfl rfl ⟨_, rfl⟩ ?_
      refine wp_iload_n (pc' := 60) dX6_rate_59 rfl rfl ?_
      refine wp_cVI (μ' := mX6_ratePilgrim) (pc' := 63) (o := 0) dX6_rate_60 rfl mlX6_199 cfX6_ratePilgrim ⟨(Nat.le_of_ble_eq_true rfl), (Nat.le_of_ble_eq_true rfl)⟩ (sp_ratePilgrim) (by decide) rfl rfl rfl rfl rfl (Nat.le_of_ble_eq_true rfl) ?_
      refine wp_ireti dX6_rate_63 rfl ?_
      exact ri_ok (by rw [rateV, if_neg h5, if_neg (by decide), if_pos rfl]) (by rw [rateM, if_neg h5, if_neg (by decide), if_pos rfl])
    · refine wp_tin (off := 52) 64 dX6_rate_12 (by decide) (by decide) (by decide) (by decide) ?_
      refine wp_aload_n (pc' := 65) dX6_rate_64 rfl rfl ⟨_, rfl⟩ ?_
      refine wp_iload_n (pc' := 66) dX6_rate_65 rfl rfl ?_
      refine wp_cVI (μ' := mX6_rateShepherd) (pc' := 69) (o := 0) dX6_rate_66 rfl mlX6_202 cfX6_rateShepherd ⟨(Nat.le_of_ble_eq_true rfl), (Nat.le_of_ble_eq_true rfl)⟩ (sp_rateShepherd) (by decide) rfl rfl rfl rfl rfl (Nat.le_of_ble_eq_true rfl) ?_
      refine wp_ireti dX6_rate_69 rfl ?_
      exact ri_ok (by rw [rateV, if_neg h5, if_neg (by decide), if_neg (by decide), if_pos rfl]) (by rw [rateM, if_neg h5, if_neg (by decide), if_neg (by decide), if_pos rfl])
    · refine wp_tin (off := 58) 70 dX6_rate_12 (by decide) (by decide) (by decide) (by decide) ?_
      refine wp_aload_n (pc' := 71) dX6_rate_70 rfl rfl ⟨_, rfl⟩ ?_
      refine wp_iload_n (pc' := 72) dX6_rate_71 rfl rfl ?_
      refine wp_cVI (μ' := mX6_rateMonk) (pc' := 75) (o := 0) dX6_rate_72 rfl mlX6_205 cfX6_rateMonk ⟨(Nat.le_of_ble_eq_true rfl), (Nat.le_of_ble_eq_true rfl)⟩ (sp_rateMonk) (by decide) rfl rfl rfl rfl rfl (Nat.le_of_ble_eq_true rfl) ?_
      refine wp_ireti dX6_rate_75 rfl ?_
      exact ri_ok (by rw [rateV, if_neg h5, if_neg (by decide), if_neg (by decide), if_neg (by decide), if_pos rfl]) (by rw [rateM, if_neg h5, if_neg (by decide), if_neg (by decide), if_neg (by decide), if_pos rfl])
    · refine wp_tin (off := 64) 76 dX6_rate_12 (by decide) (by decide) (by decide) (by decide) ?_
      refine wp_aload_n (pc' := 77) dX6_rate_76 rfl rfl ⟨_, rfl⟩ ?_
      refine wp_iload_n (pc' := 78) dX6_rate_77 rfl rfl ?_
      refine wp_cVI (μ' := mX6_rateThief) (pc' := 81) (o := 0) dX6_rate_78 rfl mlX6_208 cfX6_rateThief ⟨(Nat.le_of_ble_eq_true rfl), (Nat.le_of_ble_eq_true rfl)⟩ (sp_rateThief) (by decide) rfl rfl rfl rfl rfl (Nat.le_of_ble_eq_true rfl) ?_
      refine wp_ireti dX6_rate_81 rfl ?_
      exact ri_ok (by rw [rateV, if_neg h5, if_neg (by decide), if_neg (by decide), if_neg (by decide), if_neg (by decide), if_pos rfl]) (by rw [rateM, if_neg h5, if_neg (by decide), if_neg (by decide), if_neg (by decide), if_neg (by decide), if_pos rfl])
    · refine wp_tin (off := 70) 82 dX6_rate_12 (by decide) (by decide) (by decide) (by decide) ?_
      refine wp_aload_n (pc' := 83) dX6_rate_82 rfl rfl ⟨_, rfl⟩ ?_
      refine wp_iload_n (pc' := 84) dX6_rate_83 rfl rfl ?_
      refine wp_cVI (μ' := mX6_rateChild) (pc' := 87) (o := 0) dX6_rate_84 rfl mlX6_211 cfX6_rateChild ⟨(Nat.le_of_ble_eq_true rfl), (Nat.le_of_ble_eq_true rfl)⟩ (sp_rateChild) (by decide) rfl rfl rfl rfl rfl (Nat.le_of_ble_eq_true rfl) ?_
      refine wp_ireti dX6_rate_87 rfl ?_
      exact ri_ok (by rw [rateV, if_neg h5, if_neg (by decide), if_neg (by decide), if_neg (by decide), if_neg (by decide), if_neg (by decide), if_pos rfl]) (by rw [rateM, if_neg h5, if_neg (by decide), if_neg (by decide), if_neg (by decide), if_neg (by decide), if_neg (by decide), if_pos rfl])
    · refine wp_tout 88 dX6_rate_12 h12 (by decide) ?_
      refine wp_ldc (pc' := 90) (-1000000) dX6_rate_88 rfl (wR27 _ (List.mem_of_getElem? (i := 18) rfl)) ?_
      refine wp_ireti dX6_rate_90 rfl ?_
      exact ri_ok (by rw [rateV, if_neg h5, if_neg (tsw_ne h12 0 (by decide)), if_neg (tsw_ne h12 1 (by decide)), if_neg (tsw_ne h12 2 (by decide)), if_neg (tsw_ne h12 3 (by decide)), if_neg (tsw_ne h12 4 (by decide)), if_neg (tsw_ne h12 5 (by decide))]) (by rw [rateM, if_neg h5, if_neg (tsw_ne h12 0 (by decide)), if_neg (tsw_ne h12 1 (by decide)), if_neg (tsw_ne h12 2 (by decide)), if_neg (tsw_ne h12 3 (by decide)), if_neg (tsw_ne h12 4 (by decide)), if_neg (tsw_ne h12 5 (by decide))])
  · refine wp_ldc (pc' := 10) (-1000000) dX6_rate_8 rfl (wR27 _ (List.mem_of_getElem? (i := 18) rfl)) ?_
    refine wp_ireti dX6_rate_10 rfl ?_
    exact ri_ok (by rw [rateV, if_pos h5]) (by rw [rateM, if_pos h5])
theorem sp_keep0 {g : GG} {M : Mem} : RI g mX6_keep [ob g 0, .int 0] M (pcF (M.1 13 1)) (upI (ncp17_13 M) 17 5 1) := by
  refine spec_of_wp (ls := [some (ob g 0), some (.int 0), none]) rfl (Nat.le_of_ble_eq_true rfl) 1 rfl ?_
  refine wp_iload_n (pc' := 1) dX6_keep_0 rfl rfl ?_
  refine wp_if_lt (pc' := 4) 9 dX6_keep_1 rfl (by decide) (fun hh => absurd hh (by decide)) (fun _ => ?_)
  refine wp_iload_n (pc' := 5) dX6_keep_4 rfl rfl ?_
  refine wp_iconst (pc' := 6) 1 dX6_keep_5 rfl (by decide) ?_
  refine wp_icmp_le (pc' := 9) 11 dX6_keep_6 rfl (by decide) (fun _ => ?_) (fun hh => absurd hh (by decide))
  refine wp_aload_n (pc' := 12) dX6_keep_11 rfl rfl ⟨_, rfl⟩ ?_
  refine wp_iload_n (pc' := 13) dX6_keep_12 rfl rfl ?_
  refine wp_cVO (μ' := mX6_imageOf) (pc' := 16) (o := 0) dX6_keep_13 rfl mlX6_214 cfX6_imageOf ⟨(Nat.le_of_ble_eq_true rfl), (Nat.le_of_ble_eq_true rfl)⟩ (sp_image0) (by decide) rfl rfl rfl rfl rfl (Nat.le_of_ble_eq_true rfl) ?_
  refine wp_ast2 (pc' := 17) dX6_keep_16 rfl (by decide) rfl ⟨_, rfl⟩ ?_
  refine wp_aload_n (pc' := 18) dX6_keep_17 rfl rfl ⟨_, rfl⟩ ?_
  refine wp_aload_n (pc' := 19) dX6_keep_18 rfl rfl ⟨_, rfl⟩ ?_
  refine wp_get (pc' := 22) (o := 0) dX6_keep_19 rfl flX6_46 (by decide) rfl rfl ?_
  refine wp_cVV (μ' := mX0_copy) (pc' := 25) (o := 17) dX6_keep_22 rfl mlX6_218 cfX0_copy ⟨(Nat.le_of_ble_eq_true rfl), (Nat.le_of_ble_eq_true rfl)⟩ (sp_ncopy17_13) (by decide) rfl rfl rfl rfl rfl (Nat.le_of_ble_eq_true rfl) ?_
  refine wp_aload_n (pc' := 26) dX6_keep_25 rfl rfl ⟨_, rfl⟩ ?_
  refine wp_iconst (pc' := 27) 1 dX6_keep_26 rfl (by decide) ?_
  refine wp_putz (pc' := 30) (o := 17) dX6_keep_27 rfl fpX6_97 (by decide) rfl (Nat.le_of_ble_eq_true rfl) rfl rfl rfl ?_
  refine wp_aload_n (pc' := 31) dX6_keep_30 rfl rfl ⟨_, rfl⟩ ?_
  refine wp_get (pc' := 34) (o := 0) dX6_keep_31 rfl flX6_46 (by decide) rfl rfl ?_
  refine wp_get (pc' := 37) (o := 13) dX6_keep_34 rfl flX6_158 (by decide) rfl rfl ?_
  refine wp_cSI (μ' := mJ6_bitCount_0f7a4) (pc' := 40) dX6_keep_37 rfl mlX6_161 cfJ6_bitCount_0f7a4 ⟨(Nat.le_of_ble_eq_true rfl), (Nat.le_of_ble_eq_true rfl)⟩ (sp_bitCount) rfl rfl (Nat.le_of_ble_eq_true rfl) ?_
  refine wp_ireti dX6_keep_40 rfl ?_
  exact ri_ok rfl rfl
def back0V (M : Mem) : Int32 := if M.1 17 5 = 0 then -2 else pcF (M.1 17 1)
def back0M (M : Mem) : Mem := if M.1 17 5 = 0 then M else ncp13_17 M
theorem sp_back0 {g : GG} {M : Mem} : RI g mX6_back [ob g 0, .int 0] M (back0V M) (back0M M) := by
  refine spec_of_wp (ls := [some (ob g 0), some (.int 0), none]) rfl (Nat.le_of_ble_eq_true rfl) 1 rfl ?_
  refine wp_iload_n (pc' := 1) dX6_back_0 rfl rfl ?_
  refine wp_if_lt (pc' := 4) 9 dX6_back_1 rfl (by decide) (fun hh => absurd hh (by decide)) (fun _ => ?_)
  refine wp_iload_n (pc' := 5) dX6_back_4 rfl rfl ?_
  refine wp_iconst (pc' := 6) 1 dX6_back_5 rfl (by decide) ?_
  refine wp_icmp_le (pc' := 9) 11 dX6_back_6 rfl (by decide) (fun _ => ?_) (fun hh => absurd hh (by decide))
  refine wp_aload_n (pc' := 12) dX6_back_11 rfl rfl ⟨_, rfl⟩ ?_
  refine wp_iload_n (pc' := 13) dX6_back_12 rfl rfl ?_
  refine wp_cVO (μ' := mX6_imageOf) (pc' := 16) (o := 0) dX6_back_13 rfl mlX6_214 cfX6_imageOf ⟨(Nat.le_of_ble_eq_true rfl), (Nat.le_of_ble_eq_true rfl)⟩ (sp_image0) (by decide) rfl rfl rfl rfl rfl (Nat.le_of_ble_eq_true rfl) ?_
  refine wp_ast2 (pc' := 17) dX6_back_16 rfl (by decide) rfl ⟨_, rfl⟩ ?_
  refine wp_aload_n (pc' := 18) dX6_back_17 rfl rfl ⟨_, rfl⟩ ?_
  refine wp_get (pc' := 21) (o := 17) dX6_back_18 rfl flX6_97 (by decide) rfl rfl ?_
  refine wp_if_ne (pc' := 24) 27 dX6_back_21 rfl (by decide) (fun h21 => ?_) (fun h21 => ?_)
  · refine wp_aload_n (pc' := 28) dX6_back_27 rfl rfl ⟨_, rfl⟩ ?_
    refine wp_get (pc' := 31) (o := 0) dX6_back_28 rfl flX6_46 (by decide) rfl rfl ?_
    refine wp_aload_n (pc' := 32) dX6_back_31 rfl rfl ⟨_, rfl⟩ ?_
    refine wp_cVV (μ' := mX0_copy) (pc' := 35) (o := 13) dX6_back_32 rfl mlX6_218 cfX0_copy ⟨(Nat.le_of_ble_eq_true rfl), (Nat.le_of_ble_eq_true rfl)⟩ (sp_ncopy13_17) (by decide) rfl rfl rfl rfl rfl (Nat.le_of_ble_eq_true rfl) ?_
    refine wp_aload_n (pc' := 36) dX6_back_35 rfl rfl ⟨_, rfl⟩ ?_
    refine wp_get (pc' := 39) (o := 0) dX6_back_36 rfl flX6_46 (by decide) rfl rfl ?_
    refine wp_get (pc' := 42) (o := 13) dX6_back_39 rfl flX6_158 (by decide) rfl rfl ?_
    refine wp_cSI (μ' := mJ6_bitCount_0f7a4) (pc' := 45) dX6_back_42 rfl mlX6_161 cfJ6_bitCount_0f7a4 ⟨(Nat.le_of_ble_eq_true rfl), (Nat.le_of_ble_eq_true rfl)⟩ (sp_bitCount) rfl rfl (Nat.le_of_ble_eq_true rfl) ?_
    refine wp_ireti dX6_back_45 rfl ?_
    exact ri_ok (by rw [back0V, if_neg h21]; rfl) (by rw [back0M, if_neg h21])
  · refine wp_bipush (pc' := 26) (-2) dX6_back_24 rfl (by decide) ?_
    refine wp_ireti dX6_back_26 rfl ?_
    exact ri_ok (by rw [back0V, if_pos h21]) (by rw [back0M, if_pos h21])
theorem sp_keep1 {g : GG} {M : Mem} : RI g mX6_keep [ob g 0, .int 1] M (pcF (M.1 13 1)) (upI (ncp21_13 M) 21 5 1) := by
  refine spec_of_wp (ls := [some (ob g 0), some (.int 1), none]) rfl (Nat.le_of_ble_eq_true rfl) 1 rfl ?_
  refine wp_iload_n (pc' := 1) dX6_keep_0 rfl rfl ?_
  refine wp_if_lt (pc' := 4) 9 dX6_keep_1 rfl (by decide) (fun hh => absurd hh (by decide)) (fun _ => ?_)
  refine wp_iload_n (pc' := 5) dX6_keep_4 rfl rfl ?_
  refine wp_iconst (pc' := 6) 1 dX6_keep_5 rfl (by decide) ?_
  refine wp_icmp_le (pc' := 9) 11 dX6_keep_6 rfl (by decide) (fun _ => ?_) (fun hh => absurd hh (by decide))
  refine wp_aload_n (pc' := 12) dX6_keep_11 rfl rfl ⟨_, rfl⟩ ?_
  refine wp_iload_n (pc' := 13) dX6_keep_12 rfl rfl ?_
  refine wp_cVO (μ' := mX6_imageOf) (pc' := 16) (o := 0) dX6_keep_13 rfl mlX6_214 cfX6_imageOf ⟨(Nat.le_of_ble_eq_true rfl), (Nat.le_of_ble_eq_true rfl)⟩ (sp_image1) (by decide) rfl rfl rfl rfl rfl (Nat.le_of_ble_eq_true rfl) ?_
  refine wp_ast2 (pc' := 17) dX6_keep_16 rfl (by decide) rfl ⟨_, rfl⟩ ?_
  refine wp_aload_n (pc' := 18) dX6_keep_17 rfl rfl ⟨_, rfl⟩ ?_
  refine wp_aload_n (pc' := 19) dX6_keep_18 rfl rfl ⟨_, rfl⟩ ?_
  refine wp_get (pc' := 22) (o := 0) dX6_keep_19 rfl flX6_46 (by decide) rfl rfl ?_
  refine wp_cVV (μ' := mX0_copy) (pc' := 25) (o := 21) dX6_keep_22 rfl mlX6_218 cfX0_copy ⟨(Nat.le_of_ble_eq_true rfl), (Nat.le_of_ble_eq_true rfl)⟩ (sp_ncopy21_13) (by decide) rfl rfl rfl rfl rfl (Nat.le_of_ble_eq_true rfl) ?_
  refine wp_aload_n (pc' := 26) dX6_keep_25 rfl rfl ⟨_, rfl⟩ ?_
  refine wp_iconst (pc' := 27) 1 dX6_keep_26 rfl (by decide) ?_
  refine wp_putz (pc' := 30) (o := 21) dX6_keep_27 rfl fpX6_97 (by decide) rfl (Nat.le_of_ble_eq_true rfl) rfl rfl rfl ?_
  refine wp_aload_n (pc' := 31) dX6_keep_30 rfl rfl ⟨_, rfl⟩ ?_
  refine wp_get (pc' := 34) (o := 0) dX6_keep_31 rfl flX6_46 (by decide) rfl rfl ?_
  refine wp_get (pc' := 37) (o := 13) dX6_keep_34 rfl flX6_158 (by decide) rfl rfl ?_
  refine wp_cSI (μ' := mJ6_bitCount_0f7a4) (pc' := 40) dX6_keep_37 rfl mlX6_161 cfJ6_bitCount_0f7a4 ⟨(Nat.le_of_ble_eq_true rfl), (Nat.le_of_ble_eq_true rfl)⟩ (sp_bitCount) rfl rfl (Nat.le_of_ble_eq_true rfl) ?_
  refine wp_ireti dX6_keep_40 rfl ?_
  exact ri_ok rfl rfl
def back1V (M : Mem) : Int32 := if M.1 21 5 = 0 then -2 else pcF (M.1 21 1)
def back1M (M : Mem) : Mem := if M.1 21 5 = 0 then M else ncp13_21 M
theorem sp_back1 {g : GG} {M : Mem} : RI g mX6_back [ob g 0, .int 1] M (back1V M) (back1M M) := by
  refine spec_of_wp (ls := [some (ob g 0), some (.int 1), none]) rfl (Nat.le_of_ble_eq_true rfl) 1 rfl ?_
  refine wp_iload_n (pc' := 1) dX6_back_0 rfl rfl ?_
  refine wp_if_lt (pc' := 4) 9 dX6_back_1 rfl (by decide) (fun hh => absurd hh (by decide)) (fun _ => ?_)
  refine wp_iload_n (pc' := 5) dX6_back_4 rfl rfl ?_
  refine wp_iconst (pc' := 6) 1 dX6_back_5 rfl (by decide) ?_
  refine wp_icmp_le (pc' := 9) 11 dX6_back_6 rfl (by decide) (fun _ => ?_) (fun hh => absurd hh (by decide))
  refine wp_aload_n (pc' := 12) dX6_back_11 rfl rfl ⟨_, rfl⟩ ?_
  refine wp_iload_n (pc' := 13) dX6_back_12 rfl rfl ?_
  refine wp_cVO (μ' := mX6_imageOf) (pc' := 16) (o := 0) dX6_back_13 rfl mlX6_214 cfX6_imageOf ⟨(Nat.le_of_ble_eq_true rfl), (Nat.le_of_ble_eq_true rfl)⟩ (sp_image1) (by decide) rfl rfl rfl rfl rfl (Nat.le_of_ble_eq_true rfl) ?_
  refine wp_ast2 (pc' := 17) dX6_back_16 rfl (by decide) rfl ⟨_, rfl⟩ ?_
  refine wp_aload_n (pc' := 18) dX6_back_17 rfl rfl ⟨_, rfl⟩ ?_
  refine wp_get (pc' := 21) (o := 21) dX6_back_18 rfl flX6_97 (by decide) rfl rfl ?_
  refine wp_if_ne (pc' := 24) 27 dX6_back_21 rfl (by decide) (fun h21 => ?_) (fun h21 => ?_)
  · refine wp_aload_n (pc' := 28) dX6_back_27 rfl rfl ⟨_, rfl⟩ ?_
    refine wp_get (pc' := 31) (o := 0) dX6_back_28 rfl flX6_46 (by decide) rfl rfl ?_
    refine wp_aload_n (pc' := 32) dX6_back_31 rfl rfl ⟨_, rfl⟩ ?_
    refine wp_cVV (μ' := mX0_copy) (pc' := 35) (o := 13) dX6_back_32 rfl mlX6_218 cfX0_copy ⟨(Nat.le_of_ble_eq_true rfl), (Nat.le_of_ble_eq_true rfl)⟩ (sp_ncopy13_21) (by decide) rfl rfl rfl rfl rfl (Nat.le_of_ble_eq_true rfl) ?_
    refine wp_aload_n (pc' := 36) dX6_back_35 rfl rfl ⟨_, rfl⟩ ?_
    refine wp_get (pc' := 39) (o := 0) dX6_back_36 rfl flX6_46 (by decide) rfl rfl ?_
    refine wp_get (pc' := 42) (o := 13) dX6_back_39 rfl flX6_158 (by decide) rfl rfl ?_
    refine wp_cSI (μ' := mJ6_bitCount_0f7a4) (pc' := 45) dX6_back_42 rfl mlX6_161 cfJ6_bitCount_0f7a4 ⟨(Nat.le_of_ble_eq_true rfl), (Nat.le_of_ble_eq_true rfl)⟩ (sp_bitCount) rfl rfl (Nat.le_of_ble_eq_true rfl) ?_
    refine wp_ireti dX6_back_45 rfl ?_
    exact ri_ok (by rw [back1V, if_neg h21]; rfl) (by rw [back1M, if_neg h21])
  · refine wp_bipush (pc' := 26) (-2) dX6_back_24 rfl (by decide) ?_
    refine wp_ireti dX6_back_26 rfl ?_
    exact ri_ok (by rw [back1V, if_pos h21]) (by rw [back1M, if_pos h21])
theorem sp_keep_bad {g : GG} {M : Mem} {i : Int32} (h : i < 0 ∨ 1 < i) : RI g mX6_keep [ob g 0, .int i] M (-1) M := by
  refine spec_of_wp (ls := [some (ob g 0), some (.int i), none]) rfl (Nat.le_of_ble_eq_true rfl) 1 rfl ?_
  refine wp_iload_n (pc' := 1) dX6_keep_0 rfl rfl ?_
  refine wp_if_lt (pc' := 4) 9 dX6_keep_1 rfl (by decide) (fun h1 => ?_) (fun h1 => ?_)
  · refine wp_iconst (pc' := 10) (-1) dX6_keep_9 rfl (by decide) ?_
    refine wp_ireti dX6_keep_10 rfl ?_
    exact ri_ok rfl rfl
  · refine wp_iload_n (pc' := 5) dX6_keep_4 rfl rfl ?_
    refine wp_iconst (pc' := 6) 1 dX6_keep_5 rfl (by decide) ?_
    refine wp_icmp_le (pc' := 9) 11 dX6_keep_6 rfl (by decide) (fun h6 => ?_) (fun h6 => ?_)
    · exact h.elim (fun h => absurd h h1) (fun h => absurd h6 (Int32.not_le.mpr h))
    · refine wp_iconst (pc' := 10) (-1) dX6_keep_9 rfl (by decide) ?_
      refine wp_ireti dX6_keep_10 rfl ?_
      exact ri_ok rfl rfl
theorem sp_back_bad {g : GG} {M : Mem} {i : Int32} (h : i < 0 ∨ 1 < i) : RI g mX6_back [ob g 0, .int i] M (-1) M := by
  refine spec_of_wp (ls := [some (ob g 0), some (.int i), none]) rfl (Nat.le_of_ble_eq_true rfl) 1 rfl ?_
  refine wp_iload_n (pc' := 1) dX6_back_0 rfl rfl ?_
  refine wp_if_lt (pc' := 4) 9 dX6_back_1 rfl (by decide) (fun h1 => ?_) (fun h1 => ?_)
  · refine wp_iconst (pc' := 10) (-1) dX6_back_9 rfl (by decide) ?_
    refine wp_ireti dX6_back_10 rfl ?_
    exact ri_ok rfl rfl
  · refine wp_iload_n (pc' := 5) dX6_back_4 rfl rfl ?_
    refine wp_iconst (pc' := 6) 1 dX6_back_5 rfl (by decide) ?_
    refine wp_icmp_le (pc' := 9) 11 dX6_back_6 rfl (by decide) (fun h6 => ?_) (fun h6 => ?_)
    · exact h.elim (fun h => absurd h h1) (fun h => absurd h6 (Int32.not_le.mpr h))
    · refine wp_iconst (pc' := 10) (-1) dX6_back_9 rfl (by decide) ?_
      refine wp_ireti dX6_back_10 rfl ?_
      exact ri_ok rfl rfl
end
