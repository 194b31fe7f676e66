section
-- ===== PART A: goes FIRST, ahead of the names: the tables' words, and 'selects' of the private methods out of them =====
/-- a private method of a class that the tables say can be made, by its rows of tables_1 -/
def lw_okq (q : MethodName × Nat) : Prop := (q.1.cls ≠ "java/lang/invoke/MethodHandle" ∧ q.1.cls ≠ "java/lang/invoke/VarHandle") ∧ Cond.instantiable q.1.cls q.2 ∈ tables_1 ∧ Cond.privateMethod q.1 ∈ tables_1 ∧ Cond.instanceMethod q.1 ∈ tables_1
theorem lw_p0 : lw_okq (⟨"FeedAxis$Saved", "rowAt", "(I)LFeedAxis$Axis;"⟩, 3) := ⟨⟨by decide +kernel, by decide +kernel⟩, List.mem_of_getElem? (i := 121) (by decide +kernel), List.mem_of_getElem? (i := 208) (by decide +kernel), List.mem_of_getElem? (i := 209) (by decide +kernel)⟩
theorem lw_p1 : lw_okq (⟨"FeedAxis", "setPoint", "(LFeedAxis$Points;III)I"⟩, 6) := ⟨⟨by decide +kernel, by decide +kernel⟩, List.mem_of_getElem? (i := 13) (by decide +kernel), List.mem_of_getElem? (i := 250) (by decide +kernel), List.mem_of_getElem? (i := 251) (by decide +kernel)⟩
theorem lw_p2 : lw_okq (⟨"FeedAxis$Points", "lastUpTo", "(I)I"⟩, 3) := ⟨⟨by decide +kernel, by decide +kernel⟩, List.mem_of_getElem? (i := 27) (by decide +kernel), List.mem_of_getElem? (i := 258) (by decide +kernel), List.mem_of_getElem? (i := 259) (by decide +kernel)⟩
theorem lw_p3 : lw_okq (⟨"FeedAxis$Points", "isAt", "(II)Z"⟩, 3) := ⟨⟨by decide +kernel, by decide +kernel⟩, List.mem_of_getElem? (i := 27) (by decide +kernel), List.mem_of_getElem? (i := 262) (by decide +kernel), List.mem_of_getElem? (i := 263) (by decide +kernel)⟩
theorem lw_p4 : lw_okq (⟨"FeedAxis$TableText", "skipSpaces", "()V"⟩, 4) := ⟨⟨by decide +kernel, by decide +kernel⟩, List.mem_of_getElem? (i := 140) (by decide +kernel), List.mem_of_getElem? (i := 324) (by decide +kernel), List.mem_of_getElem? (i := 325) (by decide +kernel)⟩
theorem lw_p5 : lw_okq (⟨"FeedAxis$TableText", "nextCharacter", "()I"⟩, 4) := ⟨⟨by decide +kernel, by decide +kernel⟩, List.mem_of_getElem? (i := 140) (by decide +kernel), List.mem_of_getElem? (i := 328) (by decide +kernel), List.mem_of_getElem? (i := 329) (by decide +kernel)⟩
theorem lw_p6 : lw_okq (⟨"FeedAxis$TableText", "readItem", "(LFeedAxis$Axis;)V"⟩, 4) := ⟨⟨by decide +kernel, by decide +kernel⟩, List.mem_of_getElem? (i := 140) (by decide +kernel), List.mem_of_getElem? (i := 333) (by decide +kernel), List.mem_of_getElem? (i := 334) (by decide +kernel)⟩
theorem lw_p7 : lw_okq (⟨"FeedAxis$TableText", "readNumber", "(IIZ)I"⟩, 4) := ⟨⟨by decide +kernel, by decide +kernel⟩, List.mem_of_getElem? (i := 140) (by decide +kernel), List.mem_of_getElem? (i := 337) (by decide +kernel), List.mem_of_getElem? (i := 338) (by decide +kernel)⟩
theorem lw_p8 : lw_okq (⟨"FeedAxis$TableText", "readDigits", "()I"⟩, 4) := ⟨⟨by decide +kernel, by decide +kernel⟩, List.mem_of_getElem? (i := 140) (by decide +kernel), List.mem_of_getElem? (i := 341) (by decide +kernel), List.mem_of_getElem? (i := 342) (by decide +kernel)⟩
theorem lw_p9 : lw_okq (⟨"FeedAxis$TableText", "expect", "(I)V"⟩, 4) := ⟨⟨by decide +kernel, by decide +kernel⟩, List.mem_of_getElem? (i := 140) (by decide +kernel), List.mem_of_getElem? (i := 348) (by decide +kernel), List.mem_of_getElem? (i := 349) (by decide +kernel)⟩
theorem lw_p10 : lw_okq (⟨"FeedAxis$TableText", "setItem", "(LFeedAxis$Axis;IIII)V"⟩, 4) := ⟨⟨by decide +kernel, by decide +kernel⟩, List.mem_of_getElem? (i := 140) (by decide +kernel), List.mem_of_getElem? (i := 358) (by decide +kernel), List.mem_of_getElem? (i := 359) (by decide +kernel)⟩
theorem lw_p11 : lw_okq (⟨"FeedAxis", "adoptTrial", "()V"⟩, 6) := ⟨⟨by decide +kernel, by decide +kernel⟩, List.mem_of_getElem? (i := 13) (by decide +kernel), List.mem_of_getElem? (i := 366) (by decide +kernel), List.mem_of_getElem? (i := 367) (by decide +kernel)⟩
theorem lw_p12 : lw_okq (⟨"FeedAxis$Axis", "microstepsTo", "(I)I"⟩, 14) := ⟨⟨by decide +kernel, by decide +kernel⟩, List.mem_of_getElem? (i := 21) (by decide +kernel), List.mem_of_getElem? (i := 395) (by decide +kernel), List.mem_of_getElem? (i := 396) (by decide +kernel)⟩
theorem lw_p13 : lw_okq (⟨"FeedAxis$Axis", "microstepsAlike", "(I)I"⟩, 14) := ⟨⟨by decide +kernel, by decide +kernel⟩, List.mem_of_getElem? (i := 21) (by decide +kernel), List.mem_of_getElem? (i := 417) (by decide +kernel), List.mem_of_getElem? (i := 418) (by decide +kernel)⟩
theorem lw_p14 : lw_okq (⟨"FeedAxis$Axis", "stalls", "()Z"⟩, 14) := ⟨⟨by decide +kernel, by decide +kernel⟩, List.mem_of_getElem? (i := 21) (by decide +kernel), List.mem_of_getElem? (i := 421) (by decide +kernel), List.mem_of_getElem? (i := 422) (by decide +kernel)⟩
theorem lw_p15 : lw_okq (⟨"FeedAxis$Axis", "makeMicrosteps", "(II)V"⟩, 14) := ⟨⟨by decide +kernel, by decide +kernel⟩, List.mem_of_getElem? (i := 21) (by decide +kernel), List.mem_of_getElem? (i := 441) (by decide +kernel), List.mem_of_getElem? (i := 442) (by decide +kernel)⟩
def lw_privs_1 : List (MethodName × Nat) := [(⟨"FeedAxis$Saved", "rowAt", "(I)LFeedAxis$Axis;"⟩, 3), (⟨"FeedAxis", "setPoint", "(LFeedAxis$Points;III)I"⟩, 6), (⟨"FeedAxis$Points", "lastUpTo", "(I)I"⟩, 3), (⟨"FeedAxis$Points", "isAt", "(II)Z"⟩, 3), (⟨"FeedAxis$TableText", "skipSpaces", "()V"⟩, 4), (⟨"FeedAxis$TableText", "nextCharacter", "()I"⟩, 4), (⟨"FeedAxis$TableText", "readItem", "(LFeedAxis$Axis;)V"⟩, 4), (⟨"FeedAxis$TableText", "readNumber", "(IIZ)I"⟩, 4), (⟨"FeedAxis$TableText", "readDigits", "()I"⟩, 4), (⟨"FeedAxis$TableText", "expect", "(I)V"⟩, 4), (⟨"FeedAxis$TableText", "setItem", "(LFeedAxis$Axis;IIII)V"⟩, 4), (⟨"FeedAxis", "adoptTrial", "()V"⟩, 6), (⟨"FeedAxis$Axis", "microstepsTo", "(I)I"⟩, 14), (⟨"FeedAxis$Axis", "microstepsAlike", "(I)I"⟩, 14), (⟨"FeedAxis$Axis", "stalls", "()Z"⟩, 14), (⟨"FeedAxis$Axis", "makeMicrosteps", "(II)V"⟩, 14)]
theorem lw_r1 : ∀ q ∈ lw_privs_1, lw_okq q := List.forall_mem_cons.mpr ⟨lw_p0, List.forall_mem_cons.mpr ⟨lw_p1, List.forall_mem_cons.mpr ⟨lw_p2, List.forall_mem_cons.mpr ⟨lw_p3, List.forall_mem_cons.mpr ⟨lw_p4, List.forall_mem_cons.mpr ⟨lw_p5, List.forall_mem_cons.mpr ⟨lw_p6, List.forall_mem_cons.mpr ⟨lw_p7, List.forall_mem_cons.mpr ⟨lw_p8, List.forall_mem_cons.mpr ⟨lw_p9, List.forall_mem_cons.mpr ⟨lw_p10, List.forall_mem_cons.mpr ⟨lw_p11, List.forall_mem_cons.mpr ⟨lw_p12, List.forall_mem_cons.mpr ⟨lw_p13, List.forall_mem_cons.mpr ⟨lw_p14, List.forall_mem_cons.mpr ⟨lw_p15, fun _ h => absurd h List.not_mem_nil⟩⟩⟩⟩⟩⟩⟩⟩⟩⟩⟩⟩⟩⟩⟩⟩
theorem lw_p16 : lw_okq (⟨"FeedAxis$Axis", "tally", "(II)V"⟩, 14) := ⟨⟨by decide +kernel, by decide +kernel⟩, List.mem_of_getElem? (i := 21) (by decide +kernel), List.mem_of_getElem? (i := 445) (by decide +kernel), List.mem_of_getElem? (i := 446) (by decide +kernel)⟩
theorem lw_p17 : lw_okq (⟨"FeedAxis$Axis", "slip", "()V"⟩, 14) := ⟨⟨by decide +kernel, by decide +kernel⟩, List.mem_of_getElem? (i := 21) (by decide +kernel), List.mem_of_getElem? (i := 449) (by decide +kernel), List.mem_of_getElem? (i := 450) (by decide +kernel)⟩
theorem lw_p18 : lw_okq (⟨"FeedAxis$Axis", "turnMotor", "()V"⟩, 14) := ⟨⟨by decide +kernel, by decide +kernel⟩, List.mem_of_getElem? (i := 21) (by decide +kernel), List.mem_of_getElem? (i := 453) (by decide +kernel), List.mem_of_getElem? (i := 454) (by decide +kernel)⟩
theorem lw_p19 : lw_okq (⟨"FeedAxis", "seekOnTrial", "(I)I"⟩, 6) := ⟨⟨by decide +kernel, by decide +kernel⟩, List.mem_of_getElem? (i := 13) (by decide +kernel), List.mem_of_getElem? (i := 498) (by decide +kernel), List.mem_of_getElem? (i := 499) (by decide +kernel)⟩
theorem lw_p20 : lw_okq (⟨"FeedAxis$Axis", "ticksBeyond", "(II)I"⟩, 14) := ⟨⟨by decide +kernel, by decide +kernel⟩, List.mem_of_getElem? (i := 21) (by decide +kernel), List.mem_of_getElem? (i := 506) (by decide +kernel), List.mem_of_getElem? (i := 507) (by decide +kernel)⟩
theorem lw_p21 : lw_okq (⟨"FeedAxis", "imageNumbered", "(I)LFeedAxis$Axis;"⟩, 6) := ⟨⟨by decide +kernel, by decide +kernel⟩, List.mem_of_getElem? (i := 13) (by decide +kernel), List.mem_of_getElem? (i := 533) (by decide +kernel), List.mem_of_getElem? (i := 534) (by decide +kernel)⟩
theorem lw_p22 : lw_okq (⟨"FeedAxisModel", "notes", "()V"⟩, 10) := ⟨⟨by decide +kernel, by decide +kernel⟩, List.mem_of_getElem? (i := 612) (by decide +kernel), List.mem_of_getElem? (i := 666) (by decide +kernel), List.mem_of_getElem? (i := 667) (by decide +kernel)⟩
theorem lw_p23 : lw_okq (⟨"FeedAxisModel", "sets", "(IIII)I"⟩, 10) := ⟨⟨by decide +kernel, by decide +kernel⟩, List.mem_of_getElem? (i := 612) (by decide +kernel), List.mem_of_getElem? (i := 677) (by decide +kernel), List.mem_of_getElem? (i := 678) (by decide +kernel)⟩
theorem lw_p24 : lw_okq (⟨"FeedAxisModel", "has", "(II)Z"⟩, 10) := ⟨⟨by decide +kernel, by decide +kernel⟩, List.mem_of_getElem? (i := 612) (by decide +kernel), List.mem_of_getElem? (i := 681) (by decide +kernel), List.mem_of_getElem? (i := 682) (by decide +kernel)⟩
theorem lw_p25 : lw_okq (⟨"FeedAxisModel", "upTo", "(II)I"⟩, 10) := ⟨⟨by decide +kernel, by decide +kernel⟩, List.mem_of_getElem? (i := 612) (by decide +kernel), List.mem_of_getElem? (i := 685) (by decide +kernel), List.mem_of_getElem? (i := 686) (by decide +kernel)⟩
theorem lw_p26 : lw_okq (⟨"FeedAxisModel", "placeAt", "(II)I"⟩, 10) := ⟨⟨by decide +kernel, by decide +kernel⟩, List.mem_of_getElem? (i := 612) (by decide +kernel), List.mem_of_getElem? (i := 689) (by decide +kernel), List.mem_of_getElem? (i := 690) (by decide +kernel)⟩
theorem lw_p27 : lw_okq (⟨"FeedAxisModel", "valueAt", "(II)I"⟩, 10) := ⟨⟨by decide +kernel, by decide +kernel⟩, List.mem_of_getElem? (i := 612) (by decide +kernel), List.mem_of_getElem? (i := 694) (by decide +kernel), List.mem_of_getElem? (i := 695) (by decide +kernel)⟩
theorem lw_p28 : lw_okq (⟨"FeedAxisModel", "removes", "(II)V"⟩, 10) := ⟨⟨by decide +kernel, by decide +kernel⟩, List.mem_of_getElem? (i := 612) (by decide +kernel), List.mem_of_getElem? (i := 698) (by decide +kernel), List.mem_of_getElem? (i := 699) (by decide +kernel)⟩
theorem lw_p29 : lw_okq (⟨"FeedAxisModel", "puts", "(III)V"⟩, 10) := ⟨⟨by decide +kernel, by decide +kernel⟩, List.mem_of_getElem? (i := 612) (by decide +kernel), List.mem_of_getElem? (i := 702) (by decide +kernel), List.mem_of_getElem? (i := 703) (by decide +kernel)⟩
theorem lw_p30 : lw_okq (⟨"FeedAxisModel", "flags", "(II)V"⟩, 10) := ⟨⟨by decide +kernel, by decide +kernel⟩, List.mem_of_getElem? (i := 612) (by decide +kernel), List.mem_of_getElem? (i := 714) (by decide +kernel), List.mem_of_getElem? (i := 715) (by decide +kernel)⟩
theorem lw_p31 : lw_okq (⟨"FeedAxisModel", "putAside", "()V"⟩, 10) := ⟨⟨by decide +kernel, by decide +kernel⟩, List.mem_of_getElem? (i := 612) (by decide +kernel), List.mem_of_getElem? (i := 730) (by decide +kernel), List.mem_of_getElem? (i := 731) (by decide +kernel)⟩
def lw_privs_2 : List (MethodName × Nat) := [(⟨"FeedAxis$Axis", "tally", "(II)V"⟩, 14), (⟨"FeedAxis$Axis", "slip", "()V"⟩, 14), (⟨"FeedAxis$Axis", "turnMotor", "()V"⟩, 14), (⟨"FeedAxis", "seekOnTrial", "(I)I"⟩, 6), (⟨"FeedAxis$Axis", "ticksBeyond", "(II)I"⟩, 14), (⟨"FeedAxis", "imageNumbered", "(I)LFeedAxis$Axis;"⟩, 6), (⟨"FeedAxisModel", "notes", "()V"⟩, 10), (⟨"FeedAxisModel", "sets", "(IIII)I"⟩, 10), (⟨"FeedAxisModel", "has", "(II)Z"⟩, 10), (⟨"FeedAxisModel", "upTo", "(II)I"⟩, 10), (⟨"FeedAxisModel", "placeAt", "(II)I"⟩, 10), (⟨"FeedAxisModel", "valueAt", "(II)I"⟩, 10), (⟨"FeedAxisModel", "removes", "(II)V"⟩, 10), (⟨"FeedAxisModel", "puts", "(III)V"⟩, 10), (⟨"FeedAxisModel", "flags", "(II)V"⟩, 10), (⟨"FeedAxisModel", "putAside", "()V"⟩, 10)]
theorem lw_r2 : ∀ q ∈ lw_privs_2, lw_okq q := List.forall_mem_cons.mpr ⟨lw_p16, List.forall_mem_cons.mpr ⟨lw_p17, List.forall_mem_cons.mpr ⟨lw_p18, List.forall_mem_cons.mpr ⟨lw_p19, List.forall_mem_cons.mpr ⟨lw_p20, List.forall_mem_cons.mpr ⟨lw_p21, List.forall_mem_cons.mpr ⟨lw_p22, List.forall_mem_cons.mpr ⟨lw_p23, List.forall_mem_cons.mpr ⟨lw_p24, List.forall_mem_cons.mpr ⟨lw_p25, List.forall_mem_cons.mpr ⟨lw_p26, List.forall_mem_cons.mpr ⟨lw_p27, List.forall_mem_cons.mpr ⟨lw_p28, List.forall_mem_cons.mpr ⟨lw_p29, List.forall_mem_cons.mpr ⟨lw_p30, List.forall_mem_cons.mpr ⟨lw_p31, fun _ h => absurd h List.not_mem_nil⟩⟩⟩⟩⟩⟩⟩⟩⟩⟩⟩⟩⟩⟩⟩⟩
theorem lw_p32 : lw_okq (⟨"FeedAxisModel", "here", "()I"⟩, 10) := ⟨⟨by decide +kernel, by decide +kernel⟩, List.mem_of_getElem? (i := 612) (by decide +kernel), List.mem_of_getElem? (i := 734) (by decide +kernel), List.mem_of_getElem? (i := 735) (by decide +kernel)⟩
theorem lw_p33 : lw_okq (⟨"FeedAxisModel", "readsItem", "()Z"⟩, 10) := ⟨⟨by decide +kernel, by decide +kernel⟩, List.mem_of_getElem? (i := 612) (by decide +kernel), List.mem_of_getElem? (i := 738) (by decide +kernel), List.mem_of_getElem? (i := 739) (by decide +kernel)⟩
theorem lw_p34 : lw_okq (⟨"FeedAxisModel", "readsPoint", "(II)Z"⟩, 10) := ⟨⟨by decide +kernel, by decide +kernel⟩, List.mem_of_getElem? (i := 612) (by decide +kernel), List.mem_of_getElem? (i := 742) (by decide +kernel), List.mem_of_getElem? (i := 743) (by decide +kernel)⟩
theorem lw_p35 : lw_okq (⟨"FeedAxisModel", "reads", "(ZII)Z"⟩, 10) := ⟨⟨by decide +kernel, by decide +kernel⟩, List.mem_of_getElem? (i := 612) (by decide +kernel), List.mem_of_getElem? (i := 746) (by decide +kernel), List.mem_of_getElem? (i := 747) (by decide +kernel)⟩
theorem lw_p36 : lw_okq (⟨"FeedAxisModel", "takes", "(I)Z"⟩, 10) := ⟨⟨by decide +kernel, by decide +kernel⟩, List.mem_of_getElem? (i := 612) (by decide +kernel), List.mem_of_getElem? (i := 750) (by decide +kernel), List.mem_of_getElem? (i := 751) (by decide +kernel)⟩
theorem lw_p37 : lw_okq (⟨"FeedAxisModel", "swaps", "()V"⟩, 10) := ⟨⟨by decide +kernel, by decide +kernel⟩, List.mem_of_getElem? (i := 612) (by decide +kernel), List.mem_of_getElem? (i := 754) (by decide +kernel), List.mem_of_getElem? (i := 755) (by decide +kernel)⟩
theorem lw_p38 : lw_okq (⟨"FeedAxisModel", "aimOf", "(I)I"⟩, 10) := ⟨⟨by decide +kernel, by decide +kernel⟩, List.mem_of_getElem? (i := 612) (by decide +kernel), List.mem_of_getElem? (i := 763) (by decide +kernel), List.mem_of_getElem? (i := 764) (by decide +kernel)⟩
theorem lw_p39 : lw_okq (⟨"FeedAxisModel", "errorOf", "(I)I"⟩, 10) := ⟨⟨by decide +kernel, by decide +kernel⟩, List.mem_of_getElem? (i := 612) (by decide +kernel), List.mem_of_getElem? (i := 767) (by decide +kernel), List.mem_of_getElem? (i := 768) (by decide +kernel)⟩
theorem lw_p40 : lw_okq (⟨"FeedAxisModel", "moves", "(I)V"⟩, 10) := ⟨⟨by decide +kernel, by decide +kernel⟩, List.mem_of_getElem? (i := 612) (by decide +kernel), List.mem_of_getElem? (i := 774) (by decide +kernel), List.mem_of_getElem? (i := 775) (by decide +kernel)⟩
theorem lw_p41 : lw_okq (⟨"FeedAxisModel", "microstep", "(I)V"⟩, 10) := ⟨⟨by decide +kernel, by decide +kernel⟩, List.mem_of_getElem? (i := 612) (by decide +kernel), List.mem_of_getElem? (i := 781) (by decide +kernel), List.mem_of_getElem? (i := 782) (by decide +kernel)⟩
theorem lw_p42 : lw_okq (⟨"FeedAxisModel", "torque", "()I"⟩, 10) := ⟨⟨by decide +kernel, by decide +kernel⟩, List.mem_of_getElem? (i := 612) (by decide +kernel), List.mem_of_getElem? (i := 785) (by decide +kernel), List.mem_of_getElem? (i := 786) (by decide +kernel)⟩
theorem lw_p43 : lw_okq (⟨"FeedAxisModel", "loadOf", "(I)I"⟩, 10) := ⟨⟨by decide +kernel, by decide +kernel⟩, List.mem_of_getElem? (i := 612) (by decide +kernel), List.mem_of_getElem? (i := 789) (by decide +kernel), List.mem_of_getElem? (i := 790) (by decide +kernel)⟩
theorem lw_p44 : lw_okq (⟨"FeedAxisModel", "follows", "()V"⟩, 10) := ⟨⟨by decide +kernel, by decide +kernel⟩, List.mem_of_getElem? (i := 612) (by decide +kernel), List.mem_of_getElem? (i := 793) (by decide +kernel), List.mem_of_getElem? (i := 794) (by decide +kernel)⟩
theorem lw_p45 : lw_okq (⟨"FeedAxisModel", "commandOf", "(II)I"⟩, 10) := ⟨⟨by decide +kernel, by decide +kernel⟩, List.mem_of_getElem? (i := 612) (by decide +kernel), List.mem_of_getElem? (i := 801) (by decide +kernel), List.mem_of_getElem? (i := 802) (by decide +kernel)⟩
theorem lw_p46 : lw_okq (⟨"FeedAxisModel", "reaches", "(I)I"⟩, 10) := ⟨⟨by decide +kernel, by decide +kernel⟩, List.mem_of_getElem? (i := 612) (by decide +kernel), List.mem_of_getElem? (i := 813) (by decide +kernel), List.mem_of_getElem? (i := 814) (by decide +kernel)⟩
theorem lw_p47 : lw_okq (⟨"FeedAxisModel", "seeks", "(I)Z"⟩, 10) := ⟨⟨by decide +kernel, by decide +kernel⟩, List.mem_of_getElem? (i := 612) (by decide +kernel), List.mem_of_getElem? (i := 817) (by decide +kernel), List.mem_of_getElem? (i := 818) (by decide +kernel)⟩
def lw_privs_3 : List (MethodName × Nat) := [(⟨"FeedAxisModel", "here", "()I"⟩, 10), (⟨"FeedAxisModel", "readsItem", "()Z"⟩, 10), (⟨"FeedAxisModel", "readsPoint", "(II)Z"⟩, 10), (⟨"FeedAxisModel", "reads", "(ZII)Z"⟩, 10), (⟨"FeedAxisModel", "takes", "(I)Z"⟩, 10), (⟨"FeedAxisModel", "swaps", "()V"⟩, 10), (⟨"FeedAxisModel", "aimOf", "(I)I"⟩, 10), (⟨"FeedAxisModel", "errorOf", "(I)I"⟩, 10), (⟨"FeedAxisModel", "moves", "(I)V"⟩, 10), (⟨"FeedAxisModel", "microstep", "(I)V"⟩, 10), (⟨"FeedAxisModel", "torque", "()I"⟩, 10), (⟨"FeedAxisModel", "loadOf", "(I)I"⟩, 10), (⟨"FeedAxisModel", "follows", "()V"⟩, 10), (⟨"FeedAxisModel", "commandOf", "(II)I"⟩, 10), (⟨"FeedAxisModel", "reaches", "(I)I"⟩, 10), (⟨"FeedAxisModel", "seeks", "(I)Z"⟩, 10)]
theorem lw_r3 : ∀ q ∈ lw_privs_3, lw_okq q := List.forall_mem_cons.mpr ⟨lw_p32, List.forall_mem_cons.mpr ⟨lw_p33, List.forall_mem_cons.mpr ⟨lw_p34, List.forall_mem_cons.mpr ⟨lw_p35, List.forall_mem_cons.mpr ⟨lw_p36, List.forall_mem_cons.mpr ⟨lw_p37, List.forall_mem_cons.mpr ⟨lw_p38, List.forall_mem_cons.mpr ⟨lw_p39, List.forall_mem_cons.mpr ⟨lw_p40, List.forall_mem_cons.mpr ⟨lw_p41, List.forall_mem_cons.mpr ⟨lw_p42, List.forall_mem_cons.mpr ⟨lw_p43, List.forall_mem_cons.mpr ⟨lw_p44, List.forall_mem_cons.mpr ⟨lw_p45, List.forall_mem_cons.mpr ⟨lw_p46, List.forall_mem_cons.mpr ⟨lw_p47, fun _ h => absurd h List.not_mem_nil⟩⟩⟩⟩⟩⟩⟩⟩⟩⟩⟩⟩⟩⟩⟩⟩
theorem lw_p48 : lw_okq (⟨"FeedAxisModel", "due", "(I)I"⟩, 10) := ⟨⟨by decide +kernel, by decide +kernel⟩, List.mem_of_getElem? (i := 612) (by decide +kernel), List.mem_of_getElem? (i := 822) (by decide +kernel), List.mem_of_getElem? (i := 823) (by decide +kernel)⟩
theorem lw_p49 : lw_okq (⟨"FeedAxisModel", "stallsAt", "(II)Z"⟩, 10) := ⟨⟨by decide +kernel, by decide +kernel⟩, List.mem_of_getElem? (i := 612) (by decide +kernel), List.mem_of_getElem? (i := 883) (by decide +kernel), List.mem_of_getElem? (i := 884) (by decide +kernel)⟩
def lw_privs_4 : List (MethodName × Nat) := [(⟨"FeedAxisModel", "due", "(I)I"⟩, 10), (⟨"FeedAxisModel", "stallsAt", "(II)Z"⟩, 10)]
theorem lw_r4 : ∀ q ∈ lw_privs_4, lw_okq q := List.forall_mem_cons.mpr ⟨lw_p48, List.forall_mem_cons.mpr ⟨lw_p49, fun _ h => absurd h List.not_mem_nil⟩⟩
def lw_privs : List (MethodName × Nat) := lw_privs_1 ++ (lw_privs_2 ++ (lw_privs_3 ++ (lw_privs_4)))
def lw_tbl : List Cond := k2_sels lw_privs ++ tables_1
theorem lw_privs_ok : ∀ q ∈ lw_privs, lw_okq q := by
  show ∀ q ∈ lw_privs_1 ++ (lw_privs_2 ++ (lw_privs_3 ++ (lw_privs_4))), lw_okq q
  exact List.forall_mem_append.mpr ⟨lw_r1, List.forall_mem_append.mpr ⟨lw_r2, List.forall_mem_append.mpr ⟨lw_r3, lw_r4⟩⟩⟩
-- ===== end of PART A; then your names; then what follows =====
/-! THE CLAIM OUT OF ONE WALK OF THE LAW'S BODY. Your part is whole_start (and what it stands on); all else here is the same for every law, but numbers. -/
def R_law : String := "FeedAxisLaw"
def lw_P (b : Addr) (xs : List Int32) (args : Array Value) (s : State) : Prop := args = #[.ref b] ∧ s.IntsAt b xs ∧ xs.length ≤ 1536 ∧ (Jvm.Cond.and given_1 narrow_1).before args s = true
def lw_Q (_ : Array Value) (s : State) (o : Outcome) (t : State) : Prop := o = .returned (some (.int 1)) ∧ Framed s o t [] 600000 7302249
def lw_Z (below : List Frame) (a : Array Value) (s : State) : State → Prop := fun t => ∃ o, t.status = .running ∧ Ended t below o ∧ lw_Q a s o t
/-- the law's own end, with 1 on the stack, nothing written that was there before, its room as the claim has it -/
theorem lw_ret {p : Program} {l : Launch} {e : Env} {s : State} {m : MethodId} {below : List Frame} {meth : Method} {c : Code} {b : Nat} (hx : p.tables.exec = Jvm.exec) (hb : c.code = code) (hr : meth.sig.returnType = ret) (hlocks : meth.locks = false) {pc : Nat} {H : Heap} {ls : Array Slot} (hdg : decode code pc = .ok (.ireturn, 1)) : W p l e room_1 s m #[Value.ref b] below meth c H [] 600000 7302249 (lw_Z below #[Value.ref b] s) (F0 m pc ls [.int 1]) := by
  intro T hT X
  obtain ⟨fs, hret, hrun, hended, hW, hframe⟩ := X.leave (v := some (.int 1)) (hlocks := hlocks) (fun h => by rw [hr] at h; cases h)
  have hmeth' : T.vm.method? m = some meth := X.method'
  refine ⟨T.setFrames fs, ?_, .returned (some (.int 1)), hrun, hended, rfl, ⟨_, rfl⟩, hW, hframe⟩
  jvm_step X.here [X.here.top, hx, hb, hdg, hmeth', hr, ret, narrow_b1]
  (try refine ⟨rfl, ?_⟩); (try refine ⟨rfl, ?_⟩)
  first | (intro acts; rw [hret _ acts rfl rfl rfl]) | rw [hret _ _ rfl rfl rfl]
  exact Steps.refl _
/-- what holds at the law's entry: the machine, the code, the tables' words (any of lw_tbl by 'hts w (by decide +kernel)'), the script of L ints xs at the cell b, what the Statement gives of the start (any of its parts by flat_of_before) -/
def lw_At (p : Program) (s : State) (m : MethodId) (meth : Method) (c : Code) (b L : Nat) (xs : Nat → Int32) : Prop :=
  p.tables.exec = Jvm.exec ∧ c.code = code ∧ meth.sig.returnType = ret ∧ c.maxLocals = 4 ∧ s.vm.findClass R_law = some m.cls ∧ (∀ w ∈ lw_tbl, w.before #[Value.ref b] s = true) ∧ va_X b L xs s s.heap ∧ b < s.heap.size ∧ meth.locks = false ∧ (Jvm.Cond.and given_1 narrow_1).before #[Value.ref b] s = true
def RX0 : String := "FeedAxis$Axis"
def TX0 : u_T := fun k => match k with
  | 0 => ("FeedAxis$Axis", "numbers", "[I", true)
  | 1 => ("FeedAxis$Axis", "accounts", "[I", true)
  | 2 => ("FeedAxis$Axis", "loads", "LFeedAxis$Points;", true)
  | 3 => ("FeedAxis$Axis", "combs", "LFeedAxis$Points;", true)
  | 4 => ("FeedAxis$Axis", "commands", "LFeedAxis$Commands;", true)
  | 5 => ("FeedAxis$Axis", "hasFlag", "Z", false)
  | 6 => ("FeedAxis$Axis", "flagFrom", "I", false)
  | 7 => ("FeedAxis$Axis", "flagTo", "I", false)
  | 8 => ("FeedAxis$Axis", "counter", "I", false)
  | 9 => ("FeedAxis$Axis", "motor", "I", false)
  | 10 => ("FeedAxis$Axis", "table", "I", false)
  | 11 => ("FeedAxis$Axis", "lag", "I", false)
  | 12 => ("FeedAxis$Axis", "lost", "I", false)
  | _ => ("FeedAxis$Axis", "shift", "I", false)
def tyX0 : Nat → FieldType := fun k => match k with
  | 0 => .array .int
  | 1 => .array .int
  | 2 => .object "FeedAxis$Points"
  | 3 => .object "FeedAxis$Points"
  | 4 => .object "FeedAxis$Commands"
  | 5 => .boolean
  | 6 => .int
  | 7 => .int
  | 8 => .int
  | 9 => .int
  | 10 => .int
  | 11 => .int
  | 12 => .int
  | _ => .int
theorem nmX0 : ∀ a, a < 14 → ∀ b, b < 14 → a ≠ b → (TX0 a).2.1 ≠ (TX0 b).2.1 := by decide +kernel
theorem tyX0_ok : ∀ k, k < 14 → parseFieldDescriptor (TX0 k).2.2.1 = some (tyX0 k) := by decide +kernel
def RX1 : String := "FeedAxis$Commands"
def TX1 : u_T := fun k => match k with
  | 0 => ("FeedAxis$Commands", "places", "[I", true)
  | 1 => ("FeedAxis$Commands", "priorities", "[I", true)
  | _ => ("FeedAxis$Commands", "size", "I", false)
def tyX1 : Nat → FieldType := fun k => match k with
  | 0 => .array .int
  | 1 => .array .int
  | _ => .int
theorem nmX1 : ∀ a, a < 3 → ∀ b, b < 3 → a ≠ b → (TX1 a).2.1 ≠ (TX1 b).2.1 := by decide +kernel
theorem tyX1_ok : ∀ k, k < 3 → parseFieldDescriptor (TX1 k).2.2.1 = some (tyX1 k) := by decide +kernel
def RX2 : String := "FeedAxis$Points"
def TX2 : u_T := fun k => match k with
  | 0 => ("FeedAxis$Points", "places", "[I", true)
  | 1 => ("FeedAxis$Points", "values", "[I", true)
  | _ => ("FeedAxis$Points", "size", "I", false)
def tyX2 : Nat → FieldType := fun k => match k with
  | 0 => .array .int
  | 1 => .array .int
  | _ => .int
theorem nmX2 : ∀ a, a < 3 → ∀ b, b < 3 → a ≠ b → (TX2 a).2.1 ≠ (TX2 b).2.1 := by decide +kernel
theorem tyX2_ok : ∀ k, k < 3 → parseFieldDescriptor (TX2 k).2.2.1 = some (tyX2 k) := by decide +kernel
def RX3 : String := "FeedAxis$Rows"
def TX3 : u_T := fun k => match k with
  | _ => ("", "", "", false)
def tyX3 : Nat → FieldType := fun k => match k with
  | _ => .int
theorem nmX3 : ∀ a, a < 0 → ∀ b, b < 0 → a ≠ b → (TX3 a).2.1 ≠ (TX3 b).2.1 := by decide +kernel
theorem tyX3_ok : ∀ k, k < 0 → parseFieldDescriptor (TX3 k).2.2.1 = some (tyX3 k) := by decide +kernel
def RX4 : String := "FeedAxis$Saved"
def TX4 : u_T := fun k => match k with
  | 0 => ("FeedAxis$Saved", "rows", "[LFeedAxis$Axis;", true)
  | 1 => ("FeedAxis$Saved", "next", "I", false)
  | _ => ("FeedAxis$Saved", "size", "I", false)
def tyX4 : Nat → FieldType := fun k => match k with
  | 0 => .array (.object "FeedAxis$Axis")
  | 1 => .int
  | _ => .int
theorem nmX4 : ∀ a, a < 3 → ∀ b, b < 3 → a ≠ b → (TX4 a).2.1 ≠ (TX4 b).2.1 := by decide +kernel
theorem tyX4_ok : ∀ k, k < 3 → parseFieldDescriptor (TX4 k).2.2.1 = some (tyX4 k) := by decide +kernel
def RX5 : String := "FeedAxis$TableText"
def TX5 : u_T := fun k => match k with
  | 0 => ("FeedAxis$TableText", "characters", "[I", true)
  | 1 => ("FeedAxis$TableText", "length", "I", false)
  | 2 => ("FeedAxis$TableText", "offset", "I", false)
  | _ => ("FeedAxis$TableText", "error", "I", false)
def tyX5 : Nat → FieldType := fun k => match k with
  | 0 => .array .int
  | 1 => .int
  | 2 => .int
  | _ => .int
theorem nmX5 : ∀ a, a < 4 → ∀ b, b < 4 → a ≠ b → (TX5 a).2.1 ≠ (TX5 b).2.1 := by decide +kernel
theorem tyX5_ok : ∀ k, k < 4 → parseFieldDescriptor (TX5 k).2.2.1 = some (tyX5 k) := by decide +kernel
def RX6 : String := "FeedAxis"
def TX6 : u_T := fun k => match k with
  | 0 => ("FeedAxis", "present", "LFeedAxis$Axis;", true)
  | 1 => ("FeedAxis", "trial", "LFeedAxis$Axis;", true)
  | 2 => ("FeedAxis", "images", "[LFeedAxis$Axis;", true)
  | 3 => ("FeedAxis", "imagesThatKeep", "I", false)
  | 4 => ("FeedAxis", "saved", "LFeedAxis$Saved;", true)
  | _ => ("FeedAxis", "text", "LFeedAxis$TableText;", true)
def tyX6 : Nat → FieldType := fun k => match k with
  | 0 => .object "FeedAxis$Axis"
  | 1 => .object "FeedAxis$Axis"
  | 2 => .array (.object "FeedAxis$Axis")
  | 3 => .int
  | 4 => .object "FeedAxis$Saved"
  | _ => .object "FeedAxis$TableText"
theorem nmX6 : ∀ a, a < 6 → ∀ b, b < 6 → a ≠ b → (TX6 a).2.1 ≠ (TX6 b).2.1 := by decide +kernel
theorem tyX6_ok : ∀ k, k < 6 → parseFieldDescriptor (TX6 k).2.2.1 = some (tyX6 k) := by decide +kernel
def RX7 : String := "FeedAxisModel"
def TX7 : u_T := fun k => match k with
  | 0 => ("FeedAxisModel", "s", "[I", true)
  | 1 => ("FeedAxisModel", "past", "[I", true)
  | 2 => ("FeedAxisModel", "pasts", "I", false)
  | 3 => ("FeedAxisModel", "images", "[I", true)
  | 4 => ("FeedAxisModel", "kept", "I", false)
  | 5 => ("FeedAxisModel", "aside", "[I", true)
  | 6 => ("FeedAxisModel", "text", "[B", true)
  | 7 => ("FeedAxisModel", "typed", "I", false)
  | 8 => ("FeedAxisModel", "at", "I", false)
  | _ => ("FeedAxisModel", "number", "I", false)
def tyX7 : Nat → FieldType := fun k => match k with
  | 0 => .array .int
  | 1 => .array .int
  | 2 => .int
  | 3 => .array .int
  | 4 => .int
  | 5 => .array .int
  | 6 => .array .byte
  | 7 => .int
  | 8 => .int
  | _ => .int
theorem nmX7 : ∀ a, a < 10 → ∀ b, b < 10 → a ≠ b → (TX7 a).2.1 ≠ (TX7 b).2.1 := by decide +kernel
theorem tyX7_ok : ∀ k, k < 10 → parseFieldDescriptor (TX7 k).2.2.1 = some (tyX7 k) := by decide +kernel
abbrev vwCl : List vw_C := [(RX0, TX0, 14), (RX1, TX1, 3), (RX2, TX2, 3), (RX4, TX4, 3), (RX5, TX5, 4), (RX6, TX6, 6), (RX7, TX7, 10)]
end
section
/-! THE PURE JUDGEMENT: 'gg_P' says of a method's frame, in pure words (numbers of cells, what they are, the ints that they hold), that the machine goes on from there to a return with the post. A rule an instruction; the machine's own state stands in the definitions alone. -/
abbrev mt_K : Type := MethodName × ByteArray × Nat × Option FieldType × Room
abbrev sh_T : Type := (Nat × Nat) ⊕ ((Nat × (Nat → Option Nat)) ⊕ (Nat × List (Option (Option Nat))))
abbrev mm_T : Type := (Nat × (Nat → sh_T)) × (Nat → Nat → Int32)
abbrev cx_T : Type := Launch × va_G × (ClassId × ClassId × ClassId) × (Nat × Nat × Nat)
abbrev cx_lo (Γ : cx_T) : Nat := Γ.2.2.2.1
abbrev cx_aL (Γ : cx_T) : Nat := Γ.2.2.2.2.1
abbrev cx_aG (Γ : cx_T) : Nat := Γ.2.2.2.2.2
abbrev cx_cI (Γ : cx_T) : ClassId := Γ.2.2.1.1
abbrev cx_cB (Γ : cx_T) : ClassId := Γ.2.2.1.2.1
abbrev cx_cA (Γ : cx_T) : ClassId := Γ.2.2.1.2.2
abbrev cx_tys (Γ : cx_T) : List (ClassId × FieldType) := [(cx_cI Γ, .int), (cx_cB Γ, .byte), (cx_cA Γ, .object "FeedAxis$Axis")]
abbrev mt_rm (K : mt_K) : Room := K.2.2.2.2
def wd_all : List Cond := lw_tbl.filter goodWord
theorem wd_i (i : Nat) {w : Cond} (h : lw_tbl[i]? = some w ∧ goodWord w = true) : w ∈ wd_all := List.mem_filter.mpr ⟨List.mem_of_getElem? h.1, h.2⟩
def wd_K (K : mt_K) : List Cond := Cond.code K.1 K.2.1 K.2.2.1 K.2.2.2.1 :: wd_all
theorem wd_good {K' : mt_K} (h : Cond.code K'.1 K'.2.1 K'.2.2.1 K'.2.2.2.1 ∈ wd_all) : GoodIn wd_all (wd_K K') := by
  intro w hw
  rcases List.mem_cons.mp hw with rfl | hw
  · exact ⟨h, good_of_word (List.mem_filter.mp h).2⟩
  · exact ⟨hw, good_of_word (List.mem_filter.mp hw).2⟩
theorem wd_goodI {w : Cond} (h : w ∈ wd_all) : (w.onTables && w.keeps) = true ∨ ∃ ty, w = .arrayClass ty := good_of_word (List.mem_filter.mp h).2
def fv_l (g : Nat → Int32) : Nat → List (Option (Option Nat)) → List Value
  | _, [] => []
  | k, none :: r => Value.int (g k) :: fv_l g (k + 1) r
  | k, some x :: r => va_rf x :: fv_l g (k + 1) r
def up_2 (ν : Nat → Nat → Int32) (a j : Nat) (v : Int32) : Nat → Nat → Int32 := fun b k => if b = a ∧ k = j then v else ν b k
def cl_at (Γ : cx_T) (a : Nat) (s : sh_T) (g : Nat → Int32) (U : State) (H : Heap) : Prop := match s with
  | .inl (0, n) => H[a]? = some (arrV (cx_cI Γ) n (fun j => .int (g j))) ∧ cx_lo Γ ≤ a
  | .inl (1, n) => H[a]? = some (arrV (cx_cB Γ) n (fun j => .int (g j))) ∧ cx_lo Γ ≤ a
  | .inl (2, n) => va_T .int a n (fun j => .int (g j)) (fun q => cx_lo Γ ≤ q) U H
  | .inl (_, _) => True
  | .inr (.inl (n, f)) => H[a]? = some (arrV (cx_cA Γ) n (fun j => va_rf (f j))) ∧ cx_lo Γ ≤ a
  | .inr (.inr (ci, fl)) => (∃ r : vw_C, vwCl[ci]? = some r ∧ t_OB a (Γ.2.1.1 ci) r.2.2 (Γ.2.1.2 ci) H (vp_V (fv_l g 0 fl))) ∧ cx_lo Γ ≤ a
def wm_P (Γ : cx_T) (μ : mm_T) (U : State) (H : Heap) : Prop :=
  va_K Γ.2.1 vwCl (cx_tys Γ) U ∧ va_Z "FeedAxis$Axis" "LEAST" "[I" (.ref (cx_aL Γ)) (fun q => cx_lo Γ ≤ q) U H ∧ va_Z "FeedAxis$Axis" "GREATEST" "[I" (.ref (cx_aG Γ)) (fun q => cx_lo Γ ≤ q) U H ∧ H.size = μ.1.1 ∧ cx_lo Γ ≤ μ.1.1 ∧ ∀ a : Nat, cl_at Γ a (μ.1.2 a) (μ.2 a) U H
def ex_w : Cond := .methodLinkNest "FeedAxis$Axis" 125 ⟨"FeedAxis", "isPlace", "(I)Z"⟩ "FeedAxis"
/-- two words of the tables that are no words of a list: they go along -/
def ex_P (U : State) : Prop := va_AO "FeedAxis$Axis" U ∧ va_Nw ex_w U
theorem ex_warm {s U : State} (hW : s.WarmedH U.vm) (h : ex_P s) : ex_P U := ⟨va_AO.moved hW.alike h.1, va_Nw.warmM hW h.2⟩
theorem cl_kept {Γ : cx_T} {a : Nat} {s : sh_T} {g : Nat → Int32} {U : State} {H H1 : Heap} (h : cl_at Γ a s g U H) (hq : H1[a]? = H[a]?) : cl_at Γ a s g U H1 := by
  unfold cl_at at h ⊢
  split at h
  · exact ⟨by rw [hq]; exact h.1, h.2⟩
  · exact ⟨by rw [hq]; exact h.1, h.2⟩
  · obtain ⟨cell, h1, h2⟩ := h
    exact ⟨cell, by rw [hq]; exact h1, h2⟩
  · trivial
  · exact ⟨by rw [hq]; exact h.1, h.2⟩
  · obtain ⟨⟨r, h1, h2⟩, h3⟩ := h
    exact ⟨⟨r, h1, h2.kept hq⟩, h3⟩
theorem cl_moved {Γ : cx_T} {a : Nat} {s : sh_T} {g : Nat → Int32} {u U : State} {H : Heap} (hvm : u.vm.Alike U.vm) (h : cl_at Γ a s g u H) : cl_at Γ a s g U H := by
  unfold cl_at at h ⊢
  split at h
  · exact h
  · exact h
  · exact va_T.moved hvm h
  · trivial
  · exact h
  · exact h
theorem wm_moved {Γ : cx_T} {μ : mm_T} {u U : State} {H : Heap} (hvm : u.vm.Alike U.vm) (h : wm_P Γ μ u H) : wm_P Γ μ U H :=
  ⟨va_K.moved hvm h.1, va_Z.moved hvm h.2.1, va_Z.moved hvm h.2.2.1, h.2.2.2.1, h.2.2.2.2.1, fun a => cl_moved hvm (h.2.2.2.2.2 a)⟩
/-- one old cell written -/
theorem wm_put {Γ : cx_T} {τ : Nat × (Nat → sh_T)} {ν ν' : Nat → Nat → Int32} {U : State} {H H1 : Heap} {a : Nat} (h : wm_P Γ (τ, ν) U H) (hs : H1.size = H.size) (ho : ∀ q, q ≠ a → H1[q]? = H[q]?) (hlo : cx_lo Γ ≤ a) (hν : ∀ b, b ≠ a → ν' b = ν b) (hc : cl_at Γ a (τ.2 a) (ν' a) U H1) : wm_P Γ (τ, ν') U H1 := by
  obtain ⟨h1, h2, h3, h4, h5, h6⟩ := h
  have hk : ∀ b : Nat, b < H.size → ¬ (cx_lo Γ ≤ b) → H1[b]? = H[b]? := fun b _ hb => ho b (fun e => hb (by rw [e]; exact hlo))
  refine ⟨h1, h2.kept hk, h3.kept hk, by rw [hs]; exact h4, h5, fun b => ?_⟩
  by_cases hb : b = a
  · subst hb; exact hc
  · show cl_at Γ b (τ.2 b) (ν' b) U H1
    rw [hν b hb]
    exact cl_kept (h6 b) (ho b hb)
/-- one old cell written, its shape too (constructors) -/
theorem wm_putS {Γ : cx_T} {τ : Nat × (Nat → sh_T)} {ν : Nat → Nat → Int32} {U : State} {H H1 : Heap} {a : Nat} {s : sh_T} (h : wm_P Γ (τ, ν) U H) (hs : H1.size = H.size) (ho : ∀ q, q ≠ a → H1[q]? = H[q]?) (hlo : cx_lo Γ ≤ a) (hc : cl_at Γ a s (ν a) U H1) : wm_P Γ ((τ.1, va_up τ.2 a s), ν) U H1 := by
  obtain ⟨h1, h2, h3, h4, h5, h6⟩ := h
  have hk : ∀ b : Nat, b < H.size → ¬ (cx_lo Γ ≤ b) → H1[b]? = H[b]? := fun b _ hb => ho b (fun e => hb (by rw [e]; exact hlo))
  refine ⟨h1, h2.kept hk, h3.kept hk, by rw [hs]; exact h4, h5, fun b => ?_⟩
  show cl_at Γ b (va_up τ.2 a s b) (ν b) U H1
  by_cases hb : b = a
  · subst hb; rw [va_up_self]; exact hc
  · rw [va_up_ne _ _ hb]
    exact cl_kept (h6 b) (ho b hb)
/-- a new cell at the end -/
theorem wm_new {Γ : cx_T} {τ : Nat × (Nat → sh_T)} {ν : Nat → Nat → Int32} {U : State} {H H1 : Heap} {s : sh_T} {g : Nat → Int32} (h : wm_P Γ (τ, ν) U H) (hs : H1.size = H.size + 1) (ho : ∀ q, q < H.size → H1[q]? = H[q]?) (hc : cl_at Γ τ.1 s g U H1) : wm_P Γ ((τ.1 + 1, va_up τ.2 τ.1 s), va_up ν τ.1 g) U H1 := by
  obtain ⟨h1, h2, h3, h4, h5, h6⟩ := h
  have hk : ∀ b : Nat, b < H.size → ¬ (cx_lo Γ ≤ b) → H1[b]? = H[b]? := fun b hb _ => ho b hb
  have h4' : H.size = τ.1 := h4
  refine ⟨h1, h2.kept hk, h3.kept hk, by show H1.size = τ.1 + 1; rw [hs, h4'], Nat.le_trans h5 (Nat.le_succ _), fun b => ?_⟩
  show cl_at Γ b (va_up τ.2 τ.1 s b) (va_up ν τ.1 g b) U H1
  by_cases hb : b = τ.1
  · subst hb; rw [va_up_self, va_up_self]; exact hc
  · rw [va_up_ne _ _ hb, va_up_ne _ _ hb]
    have h7 := h6 b
    by_cases hlt : b < H.size
    · exact cl_kept h7 (ho b hlt)
    · have hno : H[b]? = none := by simp; omega
      have h8 : cl_at Γ b (τ.2 b) (ν b) U H := h7
      unfold cl_at at h8 ⊢
      split at h8
      · rw [hno] at h8; exact absurd h8.1 (by simp)
      · rw [hno] at h8; exact absurd h8.1 (by simp)
      · obtain ⟨cell, q1, q2⟩ := h8
        rw [hno] at q1; cases q1
      · trivial
      · rw [hno] at h8; exact absurd h8.1 (by simp)
      · obtain ⟨⟨r, q1, cell, q2, q3⟩, q4⟩ := h8
        rw [hno] at q2; cases q2
def lc_P (ls : Array Slot) (n : Nat) (L : List (Option Value)) : Prop := ls.size = n ∧ lv_wf ls ∧ ∀ (i : Nat) (v : Value), L[i]? = some (some v) → ls[i]? = some (.val v) ∧ v.category = 1
theorem lc_set {ls : Array Slot} {n i : Nat} {L : List (Option Value)} {v : Value} (h : lc_P ls n L) (hi : i < n) (hc : v.category = 1) : ∃ ls', storeLocals ls i v = some ls' ∧ lc_P ls' n (L.set i (some v)) := by
  obtain ⟨h1, h2, h3⟩ := h
  obtain ⟨ls', e1, f1, f2, f3⟩ := lv_store1 (l := []) (v := v) ⟨h1, h2, fun q hq => by cases hq⟩ hi hc
  refine ⟨ls', e1, f1, f2, fun j w hj => ?_⟩
  by_cases hij : j = i
  · subst hij
    have hw : w = v := by
      rw [List.getElem?_set] at hj
      simp only [if_true] at hj
      split at hj
      · exact (Option.some.inj (Option.some.inj hj)).symm
      · cases hj
    subst hw
    exact ⟨f3 (j, w) List.mem_cons_self, hc⟩
  · rw [List.getElem?_set_ne (Ne.symm hij)] at hj
    obtain ⟨g1, g2⟩ := h3 j w hj
    obtain ⟨ls2, e2, k1, k2, k3⟩ := lv_store1 (l := [(j, w)]) (v := v) ⟨h1, h2, fun q hq => by rw [List.mem_singleton.mp hq]; exact g1⟩ hi hc
    cases e1.symm.trans e2
    refine ⟨k3 (j, w) (List.mem_cons_of_mem _ ?_), g2⟩
    rw [List.mem_filter]
    refine ⟨List.mem_cons_self, ?_⟩
    simp [hij, g2]
def cx_P (K : mt_K) (p : Program) (s : State) (m : MethodId) (args : Array Value) (meth : Method) (c : Code) : Prop :=
  p.tables.exec = Jvm.exec ∧ c.code = K.2.1 ∧ meth.sig.returnType = K.2.2.2.1 ∧ c.maxLocals = K.2.2.1 ∧ s.vm.findClass K.1.cls = some m.cls ∧ (∀ w ∈ wd_all, w.before args s = true) ∧ meth.name = K.1.name ∧ ex_P s
def rt_P (K : mt_K) (pc : Nat) (v : Option Value) : Prop :=
  (v = none ∧ K.2.2.2.1 = none ∧ decode K.2.1 pc = .ok (.return_, 1)) ∨
  (∃ x : Int32, v = some (.int x) ∧ (K.2.2.2.1 = some .int ∨ (K.2.2.2.1 = some .boolean ∧ (x = 0 ∨ x = 1))) ∧ decode K.2.1 pc = .ok (.ireturn, 1)) ∨
  (∃ r : Option Nat, v = some (va_rf r) ∧ (∃ n, K.2.2.2.1 = some (.object n)) ∧ decode K.2.1 pc = .ok (.areturn, 1))
def rh_P (Γ : cx_T) (K : mt_K) (Q : Option Value → mm_T → Prop) (p : Program) (e : Env) (s : State) (m : MethodId) (args : Array Value) (below : List Frame) (meth : Method) (c : Code) (Z : State → Prop) : Prop :=
  ∀ (pc : Nat) (ls : Array Slot) (v : Option Value) (H : Heap) (locs : List Loc) (μ : mm_T), rt_P K pc v → wm_P Γ μ s H → va_S (fun q => cx_lo Γ ≤ q) s.heap H locs → Q v μ → W p Γ.1 e (mt_rm K) s m args below meth c H locs (mt_rm K).cells (mt_rm K).slots Z (F0 m pc ls v.toList)
def gg_P (Γ : cx_T) (K : mt_K) (Q : Option Value → mm_T → Prop) (cs sl pc : Nat) (L : List (Option Value)) (st : List Value) (μ : mm_T) : Prop :=
  ∀ (p : Program) (e : Env) (s : State) (m : MethodId) (args : Array Value) (below : List Frame) (meth : Method) (c : Code) (Z : State → Prop) (H : Heap) (locs : List Loc) (ls : Array Slot),
    cx_P K p s m args meth c → rh_P Γ K Q p e s m args below meth c Z → wm_P Γ μ s H → va_S (fun q => cx_lo Γ ≤ q) s.heap H locs → lc_P ls K.2.2.1 L → cx_lo Γ ≤ s.heap.size →
    W p Γ.1 e (mt_rm K) s m args below meth c H locs cs sl Z (F0 m pc ls st)
def mt_P (Γ : cx_T) (K : mt_K) (av : List Value) (μ : mm_T) (Q : Option Value → mm_T → Prop) : Prop :=
  Met Γ.1 K.1 (wd_K K) (mt_rm K) (va_Pc av (fun U => wm_P Γ μ U U.heap ∧ ex_P U)) (fun _ st o t => (∃ (v : Option Value) (μ' : mm_T), o = .returned v ∧ Q v μ' ∧ wm_P Γ μ' t t.heap) ∧ va_F (fun q => cx_lo Γ ≤ q) st t) (mt_rm K).cells (mt_rm K).slots (fun q => cx_lo Γ ≤ q)
theorem lc_args : ∀ (vs : List Value) (k : Nat), (∀ v ∈ vs, v.category = 1) → ∀ (i : Nat) (v : Value), vs[i]? = some v → (k + i, v) ∈ lv_args k vs := by
  intro vs
  induction vs with
  | nil => intro k _ i v h; simp at h
  | cons w ws ih =>
    intro k hc i v h
    have hw : ¬ w.category = 2 := by have := hc w List.mem_cons_self; omega
    unfold lv_args
    rw [if_neg hw]
    cases i with
    | zero => simp at h; subst h; exact List.mem_cons_self
    | succ i =>
      have h' : ws[i]? = some v := by simpa using h
      have := ih (k + 1) (fun v hv => hc v (List.mem_cons_of_mem _ hv)) i v h'
      rw [show k + 1 + i = k + (i + 1) by omega] at this
      exact List.mem_cons_of_mem _ this
theorem lg_sl_len (vs : List Value) (hc : ∀ v ∈ vs, v.category = 1) : (lg_sl vs).length = vs.length := by
  induction vs with
  | nil => rfl
  | cons w ws ih =>
    have hw : ¬ w.category = 2 := by have := hc w List.mem_cons_self; omega
    have e : lg_sl (w :: ws) = [Slot.val w] ++ lg_sl ws := by simp [lg_sl, hw]
    rw [e, List.length_append, ih (fun v hv => hc v (List.mem_cons_of_mem _ hv))]
    simp; omega
set_option maxHeartbeats 1000000 in
theorem mt_of {Γ : cx_T} {K : mt_K} {av : List Value} {μ : mm_T} {Q : Option Value → mm_T → Prop} {L : List (Option Value)} (hy : plainName K.1.cls = true) (hc : ∀ v ∈ av, v.category = 1) (hn : av.length ≤ K.2.2.1) (hL : ∀ (i : Nat) (v : Value), L[i]? = some (some v) → av[i]? = some v) (h : gg_P Γ K Q 0 0 0 L [] μ) : mt_P Γ K av μ Q := by
  refine Met.ofW (cc := K.2.1) (maxL := K.2.2.1) (ret := K.2.2.2.1) (ws' := wd_all) hy rfl ?_
  intro p e s m args below meth c s₁ B hml hv
  obtain ⟨rfl, hW, hE⟩ := hv
  have hts := atoms_spec (ws := wd_K K) B.pre
  have hlocks := B.notSynchronized
  rw [lg_entry_eq]
  have hlen : (lg_sl av).length ≤ K.2.2.1 := by rw [lg_sl_len av hc]; exact hn
  have hl := lv_entry av (n := K.2.2.1) hlen
  have hlc : lc_P ((lg_sl av ++ List.replicate (K.2.2.1 - (lg_sl av).length) Slot.unset).toArray) K.2.2.1 L := by
    refine ⟨hl.1, hl.2.1, fun i v hi => ?_⟩
    have h1 := hL i v hi
    have h2 := lc_args av 0 hc i v h1
    rw [Nat.zero_add] at h2
    exact ⟨hl.2.2 (i, v) h2, hc v (List.mem_of_getElem? h1)⟩
  refine h p e s m _ below meth c _ s.heap [] _ ⟨B.exec, B.bytes, B.returns, hml, findClass_of_methodNamed B.named, fun w hw => hts w (List.mem_cons_of_mem _ hw), (name_of_methodNamed B.named B.method).1, hE⟩ ?_ hW va_S.rf hlc (by rw [hW.2.2.2.1]; exact hW.2.2.2.2.1)
  intro pc ls v H locs μ' hrt hW' hS hQ
  have hq : ∀ t : State, t.heap = H → s.WarmedH t.vm → (∃ (v' : Option Value) (μ'' : mm_T), Outcome.returned v = .returned v' ∧ Q v' μ'' ∧ wm_P Γ μ'' t t.heap) ∧ va_F (fun q => cx_lo Γ ≤ q) s t := fun t ht hWm => ⟨⟨v, μ', rfl, hQ, by rw [ht]; exact wm_moved hWm.alike hW'⟩, hS.F ht⟩
  rcases hrt with ⟨rfl, hr, hd⟩ | ⟨x, rfl, hr, hd⟩ | ⟨r, rfl, ⟨n, hr⟩, hd⟩
  · exact W.vret B.exec B.bytes (B.returns.trans hr) hq hS.2.2 hd
  · rcases hr with hr | ⟨hr, hx⟩
    · exact W.iret (v := x) B.exec B.bytes (B.returns.trans hr) hq hS.2.2 hd
    · refine W.zret (v := x) (ty := .boolean) B.exec B.bytes (B.returns.trans hr) ?_ hq hS.2.2 hd
      rcases hx with rfl | rfl <;> rfl
  · refine W.aret (v := va_rf r) B.exec B.bytes (B.returns.trans hr) (Or.inl ⟨n, rfl⟩) ?_ hq hS.2.2 hd
    cases r with
    | none => exact Or.inl rfl
    | some a => exact Or.inr ⟨a, rfl⟩
section RULES
variable {Γ : cx_T} {K : mt_K} {Q : Option Value → mm_T → Prop} {cs sl pc nx : Nat} {L : List (Option Value)} {st : List Value} {μ : mm_T}
theorem gg_e {L' : List (Option Value)} {st' : List Value} {μ' : mm_T} (h : gg_P Γ K Q cs sl pc L' st' μ') (h1 : L = L') (h2 : st = st') (h3 : μ = μ') : gg_P Γ K Q cs sl pc L st μ := by subst h1 h2 h3; exact h
/-- known of the locals: fewer -/
theorem gg_L {L' : List (Option Value)} (h : gg_P Γ K Q cs sl pc L' st μ) (hs : ∀ (i : Nat) (v : Value), L'[i]? = some (some v) → L[i]? = some (some v)) : gg_P Γ K Q cs sl pc L st μ := by
  intro p e s m args below meth c Z H locs ls hC hR hW hS hl hz
  exact h p e s m args below meth c Z H locs ls hC hR hW hS ⟨hl.1, hl.2.1, fun i v hi => hl.2.2 i v (hs i v hi)⟩ hz
/-- a stronger post -/
theorem gg_Q {Q' : Option Value → mm_T → Prop} (h : gg_P Γ K Q' cs sl pc L st μ) (hq : ∀ v μ', Q' v μ' → Q v μ') : gg_P Γ K Q cs sl pc L st μ := by
  intro p e s m args below meth c Z H locs ls hC hR hW hS hl hz
  exact h p e s m args below meth c Z H locs ls hC (fun pc ls v H locs μ a b d f => hR pc ls v H locs μ a b d (hq _ _ f)) hW hS hl hz
theorem gg_iconst {n : Int} {v : Int32} (hd : decode K.2.1 pc = .ok (.iconst n, 1) ∧ pc + 1 = nx) (hv : Int32.ofInt n = v) (k : gg_P Γ K Q cs sl nx L (.int v :: st) μ) : gg_P Γ K Q cs sl pc L (st) μ := by
  intro p e s m args below meth c Z H locs ls hC hR hW hS hl hz
  obtain ⟨hx, hb, hr, hml, hown, hts, hin, hE⟩ := id hC
  obtain ⟨hd, rfl⟩ := hd
  exact lv_iconst hx hb hd hv (k p e s m args below meth c Z H locs ls hC hR hW hS hl hz)
theorem gg_bipush {n : Int} {v : Int32} (hd : decode K.2.1 pc = .ok (.bipush n, 2) ∧ pc + 2 = nx) (hv : (Int8.ofInt n).toInt32 = v) (k : gg_P Γ K Q cs sl nx L (.int v :: st) μ) : gg_P Γ K Q cs sl pc L (st) μ := by
  intro p e s m args below meth c Z H locs ls hC hR hW hS hl hz
  obtain ⟨hx, hb, hr, hml, hown, hts, hin, hE⟩ := id hC
  obtain ⟨hd, rfl⟩ := hd
  exact lv_bipush hx hb hd hv (k p e s m args below meth c Z H locs ls hC hR hW hS hl hz)
theorem gg_sipush {n : Int} {v : Int32} (hd : decode K.2.1 pc = .ok (.sipush n, 3) ∧ pc + 3 = nx) (hv : (Int16.ofInt n).toInt32 = v) (k : gg_P Γ K Q cs sl nx L (.int v :: st) μ) : gg_P Γ K Q cs sl pc L (st) μ := by
  intro p e s m args below meth c Z H locs ls hC hR hW hS hl hz
  obtain ⟨hx, hb, hr, hml, hown, hts, hin, hE⟩ := id hC
  obtain ⟨hd, rfl⟩ := hd
  exact lv_sipush hx hb hd hv (k p e s m args below meth c Z H locs ls hC hR hW hS hl hz)
theorem gg_ildn {n : Fin 4} {i : Nat} {x : Int32} (hd : decode K.2.1 pc = .ok (.iload_n n, 1) ∧ pc + 1 = nx) (hi : (n : Nat) = i) (hv : L[i]? = some (some (.int x))) (k : gg_P Γ K Q cs sl nx L (.int x :: st) μ) : gg_P Γ K Q cs sl pc L (st) μ := by
  intro p e s m args below meth c Z H locs ls hC hR hW hS hl hz
  obtain ⟨hx, hb, hr, hml, hown, hts, hin, hE⟩ := id hC
  obtain ⟨hd, rfl⟩ := hd
  exact lv_iload_n hx hb hd hi (hl.2.2 i _ hv).1 (k p e s m args below meth c Z H locs ls hC hR hW hS hl hz)
theorem gg_ild {i : Nat} {x : Int32} (hd : decode K.2.1 pc = .ok (.iload i, 2) ∧ pc + 2 = nx) (hv : L[i]? = some (some (.int x))) (k : gg_P Γ K Q cs sl nx L (.int x :: st) μ) : gg_P Γ K Q cs sl pc L (st) μ := by
  intro p e s m args below meth c Z H locs ls hC hR hW hS hl hz
  obtain ⟨hx, hb, hr, hml, hown, hts, hin, hE⟩ := id hC
  obtain ⟨hd, rfl⟩ := hd
  exact lv_iload hx hb hd (hl.2.2 i _ hv).1 (k p e s m args below meth c Z H locs ls hC hR hW hS hl hz)
theorem gg_aldn {n : Fin 4} {i a : Nat} (hd : decode K.2.1 pc = .ok (.aload_n n, 1) ∧ pc + 1 = nx) (hi : (n : Nat) = i) (hv : L[i]? = some (some (.ref a))) (k : gg_P Γ K Q cs sl nx L (.ref a :: st) μ) : gg_P Γ K Q cs sl pc L (st) μ := by
  intro p e s m args below meth c Z H locs ls hC hR hW hS hl hz
  obtain ⟨hx, hb, hr, hml, hown, hts, hin, hE⟩ := id hC
  obtain ⟨hd, rfl⟩ := hd
  exact lv_aload_n hx hb hd hi (hl.2.2 i _ hv).1 (k p e s m args below meth c Z H locs ls hC hR hW hS hl hz)
theorem gg_ald {i a : Nat} (hd : decode K.2.1 pc = .ok (.aload i, 2) ∧ pc + 2 = nx) (hv : L[i]? = some (some (.ref a))) (k : gg_P Γ K Q cs sl nx L (.ref a :: st) μ) : gg_P Γ K Q cs sl pc L (st) μ := by
  intro p e s m args below meth c Z H locs ls hC hR hW hS hl hz
  obtain ⟨hx, hb, hr, hml, hown, hts, hin, hE⟩ := id hC
  obtain ⟨hd, rfl⟩ := hd
  exact lv_aload hx hb hd (hl.2.2 i _ hv).1 (k p e s m args below meth c Z H locs ls hC hR hW hS hl hz)
theorem gg_aldnN {n : Fin 4} {i : Nat} (hd : decode K.2.1 pc = .ok (.aload_n n, 1) ∧ pc + 1 = nx) (hi : (n : Nat) = i) (hv : L[i]? = some (some .null)) (k : gg_P Γ K Q cs sl nx L (.null :: st) μ) : gg_P Γ K Q cs sl pc L (st) μ := by
  intro p e s m args below meth c Z H locs ls hC hR hW hS hl hz
  obtain ⟨hx, hb, hr, hml, hown, hts, hin, hE⟩ := id hC
  obtain ⟨hd, rfl⟩ := hd
  exact lv_aload_nN hx hb hd hi (hl.2.2 i _ hv).1 (k p e s m args below meth c Z H locs ls hC hR hW hS hl hz)
theorem gg_iadd {x y : Int32} (hd : decode K.2.1 pc = .ok (.iadd, 1) ∧ pc + 1 = nx)  (k : gg_P Γ K Q cs sl nx L (.int (x + y) :: st) μ) : gg_P Γ K Q cs sl pc L (.int y :: .int x :: st) μ := by
  intro p e s m args below meth c Z H locs ls hC hR hW hS hl hz
  obtain ⟨hx, hb, hr, hml, hown, hts, hin, hE⟩ := id hC
  obtain ⟨hd, rfl⟩ := hd
  exact lv_iadd hx hb hd (k p e s m args below meth c Z H locs ls hC hR hW hS hl hz)
theorem gg_isub {x y : Int32} (hd : decode K.2.1 pc = .ok (.isub, 1) ∧ pc + 1 = nx)  (k : gg_P Γ K Q cs sl nx L (.int (x - y) :: st) μ) : gg_P Γ K Q cs sl pc L (.int y :: .int x :: st) μ := by
  intro p e s m args below meth c Z H locs ls hC hR hW hS hl hz
  obtain ⟨hx, hb, hr, hml, hown, hts, hin, hE⟩ := id hC
  obtain ⟨hd, rfl⟩ := hd
  exact lv_isub hx hb hd (k p e s m args below meth c Z H locs ls hC hR hW hS hl hz)
theorem gg_imul {x y : Int32} (hd : decode K.2.1 pc = .ok (.imul, 1) ∧ pc + 1 = nx)  (k : gg_P Γ K Q cs sl nx L (.int (x * y) :: st) μ) : gg_P Γ K Q cs sl pc L (.int y :: .int x :: st) μ := by
  intro p e s m args below meth c Z H locs ls hC hR hW hS hl hz
  obtain ⟨hx, hb, hr, hml, hown, hts, hin, hE⟩ := id hC
  obtain ⟨hd, rfl⟩ := hd
  exact lv_imul hx hb hd (k p e s m args below meth c Z H locs ls hC hR hW hS hl hz)
theorem gg_iand {x y : Int32} (hd : decode K.2.1 pc = .ok (.iand, 1) ∧ pc + 1 = nx)  (k : gg_P Γ K Q cs sl nx L (.int (x &&& y) :: st) μ) : gg_P Γ K Q cs sl pc L (.int y :: .int x :: st) μ := by
  intro p e s m args below meth c Z H locs ls hC hR hW hS hl hz
  obtain ⟨hx, hb, hr, hml, hown, hts, hin, hE⟩ := id hC
  obtain ⟨hd, rfl⟩ := hd
  exact lv_iand hx hb hd (k p e s m args below meth c Z H locs ls hC hR hW hS hl hz)
theorem gg_ior {x y : Int32} (hd : decode K.2.1 pc = .ok (.ior, 1) ∧ pc + 1 = nx)  (k : gg_P Γ K Q cs sl nx L (.int (x ||| y) :: st) μ) : gg_P Γ K Q cs sl pc L (.int y :: .int x :: st) μ := by
  intro p e s m args below meth c Z H locs ls hC hR hW hS hl hz
  obtain ⟨hx, hb, hr, hml, hown, hts, hin, hE⟩ := id hC
  obtain ⟨hd, rfl⟩ := hd
  exact lv_ior hx hb hd (k p e s m args below meth c Z H locs ls hC hR hW hS hl hz)
theorem gg_ixor {x y : Int32} (hd : decode K.2.1 pc = .ok (.ixor, 1) ∧ pc + 1 = nx)  (k : gg_P Γ K Q cs sl nx L (.int (x ^^^ y) :: st) μ) : gg_P Γ K Q cs sl pc L (.int y :: .int x :: st) μ := by
  intro p e s m args below meth c Z H locs ls hC hR hW hS hl hz
  obtain ⟨hx, hb, hr, hml, hown, hts, hin, hE⟩ := id hC
  obtain ⟨hd, rfl⟩ := hd
  exact lv_ixor hx hb hd (k p e s m args below meth c Z H locs ls hC hR hW hS hl hz)
theorem gg_idiv {x y : Int32} (hd : decode K.2.1 pc = .ok (.idiv, 1) ∧ pc + 1 = nx) (hne : ¬ y = 0) (k : gg_P Γ K Q cs sl nx L (.int (x / y) :: st) μ) : gg_P Γ K Q cs sl pc L (.int y :: .int x :: st) μ := by
  intro p e s m args below meth c Z H locs ls hC hR hW hS hl hz
  obtain ⟨hx, hb, hr, hml, hown, hts, hin, hE⟩ := id hC
  obtain ⟨hd, rfl⟩ := hd
  exact lv_idiv hx hb hd hne (k p e s m args below meth c Z H locs ls hC hR hW hS hl hz)
theorem gg_irem {x y : Int32} (hd : decode K.2.1 pc = .ok (.irem, 1) ∧ pc + 1 = nx) (hne : ¬ y = 0) (k : gg_P Γ K Q cs sl nx L (.int (x - x / y * y) :: st) μ) : gg_P Γ K Q cs sl pc L (.int y :: .int x :: st) μ := by
  intro p e s m args below meth c Z H locs ls hC hR hW hS hl hz
  obtain ⟨hx, hb, hr, hml, hown, hts, hin, hE⟩ := id hC
  obtain ⟨hd, rfl⟩ := hd
  exact lv_irem hx hb hd hne (k p e s m args below meth c Z H locs ls hC hR hW hS hl hz)
theorem gg_ineg {x : Int32} (hd : decode K.2.1 pc = .ok (.ineg, 1) ∧ pc + 1 = nx)  (k : gg_P Γ K Q cs sl nx L (.int (-x) :: st) μ) : gg_P Γ K Q cs sl pc L (.int x :: st) μ := by
  intro p e s m args below meth c Z H locs ls hC hR hW hS hl hz
  obtain ⟨hx, hb, hr, hml, hown, hts, hin, hE⟩ := id hC
  obtain ⟨hd, rfl⟩ := hd
  exact lv_ineg hx hb hd (k p e s m args below meth c Z H locs ls hC hR hW hS hl hz)
theorem gg_ishl {x y : Int32} (hd : decode K.2.1 pc = .ok (.ishl, 1) ∧ pc + 1 = nx)  (k : gg_P Γ K Q cs sl nx L (.int (x <<< (y &&& 31)) :: st) μ) : gg_P Γ K Q cs sl pc L (.int y :: .int x :: st) μ := by
  intro p e s m args below meth c Z H locs ls hC hR hW hS hl hz
  obtain ⟨hx, hb, hr, hml, hown, hts, hin, hE⟩ := id hC
  obtain ⟨hd, rfl⟩ := hd
  exact lv_ishl hx hb hd (k p e s m args below meth c Z H locs ls hC hR hW hS hl hz)
theorem gg_ishr {x y : Int32} (hd : decode K.2.1 pc = .ok (.ishr, 1) ∧ pc + 1 = nx)  (k : gg_P Γ K Q cs sl nx L (.int (x >>> (y &&& 31)) :: st) μ) : gg_P Γ K Q cs sl pc L (.int y :: .int x :: st) μ := by
  intro p e s m args below meth c Z H locs ls hC hR hW hS hl hz
  obtain ⟨hx, hb, hr, hml, hown, hts, hin, hE⟩ := id hC
  obtain ⟨hd, rfl⟩ := hd
  exact lv_ishr hx hb hd (k p e s m args below meth c Z H locs ls hC hR hW hS hl hz)
theorem gg_iushr {x y : Int32} (hd : decode K.2.1 pc = .ok (.iushr, 1) ∧ pc + 1 = nx)  (k : gg_P Γ K Q cs sl nx L (.int (x.toUInt32 >>> (y.toUInt32 &&& Int32.toUInt32 31)).toInt32 :: st) μ) : gg_P Γ K Q cs sl pc L (.int y :: .int x :: st) μ := by
  intro p e s m args below meth c Z H locs ls hC hR hW hS hl hz
  obtain ⟨hx, hb, hr, hml, hown, hts, hin, hE⟩ := id hC
  obtain ⟨hd, rfl⟩ := hd
  exact lv_iushr hx hb hd rfl (k p e s m args below meth c Z H locs ls hC hR hW hS hl hz)
theorem gg_i2b {x : Int32} (hd : decode K.2.1 pc = .ok (.i2b, 1) ∧ pc + 1 = nx)  (k : gg_P Γ K Q cs sl nx L (.int x.toInt8.toInt32 :: st) μ) : gg_P Γ K Q cs sl pc L (.int x :: st) μ := by
  intro p e s m args below meth c Z H locs ls hC hR hW hS hl hz
  obtain ⟨hx, hb, hr, hml, hown, hts, hin, hE⟩ := id hC
  obtain ⟨hd, rfl⟩ := hd
  exact lv_i2b hx hb hd rfl (k p e s m args below meth c Z H locs ls hC hR hW hS hl hz)
theorem gg_null  (hd : decode K.2.1 pc = .ok (.aconst_null, 1) ∧ pc + 1 = nx)  (k : gg_P Γ K Q cs sl nx L (.null :: st) μ) : gg_P Γ K Q cs sl pc L (st) μ := by
  intro p e s m args below meth c Z H locs ls hC hR hW hS hl hz
  obtain ⟨hx, hb, hr, hml, hown, hts, hin, hE⟩ := id hC
  obtain ⟨hd, rfl⟩ := hd
  exact lv_null hx hb hd (k p e s m args below meth c Z H locs ls hC hR hW hS hl hz)
theorem gg_dup {v : Value} (hd : decode K.2.1 pc = .ok (.dup, 1) ∧ pc + 1 = nx) (hv : v.category = 1) (k : gg_P Γ K Q cs sl nx L (v :: v :: st) μ) : gg_P Γ K Q cs sl pc L (v :: st) μ := by
  intro p e s m args below meth c Z H locs ls hC hR hW hS hl hz
  obtain ⟨hx, hb, hr, hml, hown, hts, hin, hE⟩ := id hC
  obtain ⟨hd, rfl⟩ := hd
  exact lv_dup hx hb hd hv (k p e s m args below meth c Z H locs ls hC hR hW hS hl hz)
theorem gg_pop {v : Value} (hd : decode K.2.1 pc = .ok (.pop, 1) ∧ pc + 1 = nx) (hv : v.category = 1) (k : gg_P Γ K Q cs sl nx L (st) μ) : gg_P Γ K Q cs sl pc L (v :: st) μ := by
  intro p e s m args below meth c Z H locs ls hC hR hW hS hl hz
  obtain ⟨hx, hb, hr, hml, hown, hts, hin, hE⟩ := id hC
  obtain ⟨hd, rfl⟩ := hd
  exact lv_pop hx hb hd hv (k p e s m args below meth c Z H locs ls hC hR hW hS hl hz)
theorem gg_dup2 {v w : Value} (hd : decode K.2.1 pc = .ok (.dup2, 1) ∧ pc + 1 = nx) (hv : v.category = 1) (hw : w.category = 1) (k : gg_P Γ K Q cs sl nx L (v :: w :: v :: w :: st) μ) : gg_P Γ K Q cs sl pc L (v :: w :: st) μ := by
  intro p e s m args below meth c Z H locs ls hC hR hW hS hl hz
  obtain ⟨hx, hb, hr, hml, hown, hts, hin, hE⟩ := id hC
  obtain ⟨hd, rfl⟩ := hd
  exact lv_dup2_11 hx hb hd hv hw (k p e s m args below meth c Z H locs ls hC hR hW hS hl hz)
theorem gg_dupx1 {v w : Value} (hd : decode K.2.1 pc = .ok (.dup_x1, 1) ∧ pc + 1 = nx) (hv : v.category = 1) (hw : w.category = 1) (k : gg_P Γ K Q cs sl nx L (v :: w :: v :: st) μ) : gg_P Γ K Q cs sl pc L (v :: w :: st) μ := by
  intro p e s m args below meth c Z H locs ls hC hR hW hS hl hz
  obtain ⟨hx, hb, hr, hml, hown, hts, hin, hE⟩ := id hC
  obtain ⟨hd, rfl⟩ := hd
  exact lv_dup_x1 hx hb hd hv hw (k p e s m args below meth c Z H locs ls hC hR hW hS hl hz)
theorem gg_ldc {i : Nat} {v : Int32} (hd : decode K.2.1 pc = .ok (.ldc i, 2) ∧ pc + 2 = nx) (hw : Cond.constant K.1.cls i v ∈ wd_all) (k : gg_P Γ K Q cs sl nx L (.int v :: st) μ) : gg_P Γ K Q cs sl pc L (st) μ := by
  intro p e s m args below meth c Z H locs ls hC hR hW hS hl hz
  obtain ⟨hx, hb, hr, hml, hown, hts, hin, hE⟩ := id hC
  obtain ⟨hd, rfl⟩ := hd
  exact lv_ldc hx hb hown (hts _ hw) hd (k p e s m args below meth c Z H locs ls hC hR hW hS hl hz)
theorem gg_ldcw {i : Nat} {v : Int32} (hd : decode K.2.1 pc = .ok (.ldc_w i, 3) ∧ pc + 3 = nx) (hw : Cond.constant K.1.cls i v ∈ wd_all) (k : gg_P Γ K Q cs sl nx L (.int v :: st) μ) : gg_P Γ K Q cs sl pc L (st) μ := by
  intro p e s m args below meth c Z H locs ls hC hR hW hS hl hz
  obtain ⟨hx, hb, hr, hml, hown, hts, hin, hE⟩ := id hC
  obtain ⟨hd, rfl⟩ := hd
  exact lv_ldcw hx hb hown (hts _ hw) hd (k p e s m args below meth c Z H locs ls hC hR hW hS hl hz)
theorem gg_istn {n : Fin 4} {i : Nat} {x : Int32} (hd : decode K.2.1 pc = .ok (.istore_n n, 1) ∧ pc + 1 = nx) (hi : (n : Nat) = i) (hn : i < K.2.2.1) (k : gg_P Γ K Q cs sl nx (L.set i (some (.int x))) st μ) : gg_P Γ K Q cs sl pc L (.int x :: st) μ := by
  intro p e s m args below meth c Z H locs ls hC hR hW hS hl hz
  obtain ⟨hx, hb, hr, hml, hown, hts, hin, hE⟩ := id hC
  obtain ⟨hd, rfl⟩ := hd
  obtain ⟨ls', e', h'⟩ := lc_set (v := .int x) hl hn rfl
  have k' := k p e s m args below meth c Z H locs ls' hC hR hW hS h' hz
  intro T hT X
  obtain ⟨t, a', b'⟩ := k' T hT X
  refine ⟨t, ?_, b'⟩
  subst hi
  jvm_step X.here [X.here.top, ↓top_set X.here.top, hx, hb, hd, e']
  exact a'
theorem gg_ist {i : Nat} {x : Int32} (hd : decode K.2.1 pc = .ok (.istore i, 2) ∧ pc + 2 = nx)  (hn : i < K.2.2.1) (k : gg_P Γ K Q cs sl nx (L.set i (some (.int x))) st μ) : gg_P Γ K Q cs sl pc L (.int x :: st) μ := by
  intro p e s m args below meth c Z H locs ls hC hR hW hS hl hz
  obtain ⟨hx, hb, hr, hml, hown, hts, hin, hE⟩ := id hC
  obtain ⟨hd, rfl⟩ := hd
  obtain ⟨ls', e', h'⟩ := lc_set (v := .int x) hl hn rfl
  have k' := k p e s m args below meth c Z H locs ls' hC hR hW hS h' hz
  intro T hT X
  obtain ⟨t, a', b'⟩ := k' T hT X
  refine ⟨t, ?_, b'⟩
  jvm_step X.here [X.here.top, ↓top_set X.here.top, hx, hb, hd, e']
  exact a'
theorem gg_astn {n : Fin 4} {i a : Nat} (hd : decode K.2.1 pc = .ok (.astore_n n, 1) ∧ pc + 1 = nx) (hi : (n : Nat) = i) (hn : i < K.2.2.1) (k : gg_P Γ K Q cs sl nx (L.set i (some (.ref a))) st μ) : gg_P Γ K Q cs sl pc L (.ref a :: st) μ := by
  intro p e s m args below meth c Z H locs ls hC hR hW hS hl hz
  obtain ⟨hx, hb, hr, hml, hown, hts, hin, hE⟩ := id hC
  obtain ⟨hd, rfl⟩ := hd
  obtain ⟨ls', e', h'⟩ := lc_set (v := .ref a) hl hn rfl
  have k' := k p e s m args below meth c Z H locs ls' hC hR hW hS h' hz
  intro T hT X
  obtain ⟨t, a', b'⟩ := k' T hT X
  refine ⟨t, ?_, b'⟩
  subst hi
  jvm_step X.here [X.here.top, ↓top_set X.here.top, hx, hb, hd, e', Value.isRef]
  exact a'
theorem gg_ast {i a : Nat} (hd : decode K.2.1 pc = .ok (.astore i, 2) ∧ pc + 2 = nx)  (hn : i < K.2.2.1) (k : gg_P Γ K Q cs sl nx (L.set i (some (.ref a))) st μ) : gg_P Γ K Q cs sl pc L (.ref a :: st) μ := by
  intro p e s m args below meth c Z H locs ls hC hR hW hS hl hz
  obtain ⟨hx, hb, hr, hml, hown, hts, hin, hE⟩ := id hC
  obtain ⟨hd, rfl⟩ := hd
  obtain ⟨ls', e', h'⟩ := lc_set (v := .ref a) hl hn rfl
  have k' := k p e s m args below meth c Z H locs ls' hC hR hW hS h' hz
  intro T hT X
  obtain ⟨t, a', b'⟩ := k' T hT X
  refine ⟨t, ?_, b'⟩
  jvm_step X.here [X.here.top, ↓top_set X.here.top, hx, hb, hd, e', Value.isRef]
  exact a'
theorem gg_astnN {n : Fin 4} {i : Nat} (hd : decode K.2.1 pc = .ok (.astore_n n, 1) ∧ pc + 1 = nx) (hi : (n : Nat) = i) (hn : i < K.2.2.1) (k : gg_P Γ K Q cs sl nx (L.set i (some (.null))) st μ) : gg_P Γ K Q cs sl pc L (.null :: st) μ := by
  intro p e s m args below meth c Z H locs ls hC hR hW hS hl hz
  obtain ⟨hx, hb, hr, hml, hown, hts, hin, hE⟩ := id hC
  obtain ⟨hd, rfl⟩ := hd
  obtain ⟨ls', e', h'⟩ := lc_set (v := .null) hl hn rfl
  have k' := k p e s m args below meth c Z H locs ls' hC hR hW hS h' hz
  intro T hT X
  obtain ⟨t, a', b'⟩ := k' T hT X
  refine ⟨t, ?_, b'⟩
  subst hi
  jvm_step X.here [X.here.top, ↓top_set X.here.top, hx, hb, hd, e', Value.isRef]
  exact a'
theorem gg_iinc {i : Nat} {n : Int} {x : Int32} (hd : decode K.2.1 pc = .ok (.iinc i n, 3) ∧ pc + 3 = nx) (hv : L[i]? = some (some (.int x))) (hn : i < K.2.2.1) (k : gg_P Γ K Q cs sl nx (L.set i (some (.int (x + Int32.ofInt n)))) st μ) : gg_P Γ K Q cs sl pc L st μ := by
  intro p e s m args below meth c Z H locs ls hC hR hW hS hl hz
  obtain ⟨hx, hb, hr, hml, hown, hts, hin, hE⟩ := id hC
  obtain ⟨hd, rfl⟩ := hd
  obtain ⟨ls', e', h'⟩ := lc_set (v := .int (x + Int32.ofInt n)) hl hn rfl
  have hg := (hl.2.2 i _ hv).1
  have k' := k p e s m args below meth c Z H locs ls' hC hR hW hS h' hz
  intro T hT X
  obtain ⟨t, a', b'⟩ := k' T hT X
  refine ⟨t, ?_, b'⟩
  jvm_step X.here [X.here.top, ↓top_set X.here.top, hx, hb, hd, hg, e']
  exact a'
theorem gg_ifeq {x : Int32} {off : Int} {tg : Nat} (hd : decode K.2.1 pc = .ok (.ifCond .eq off, 3) ∧ (pc : Int) + off = (tg : Int) ∧ pc + 3 = nx) (kt : x = 0 → gg_P Γ K Q cs sl tg L st μ) (kf : ¬ x = 0 → gg_P Γ K Q cs sl nx L st μ) : gg_P Γ K Q cs sl pc L (.int x :: st) μ := by
  intro p e s m args below meth c Z H locs ls hC hR hW hS hl hz
  obtain ⟨hx, hb, hr, hml, hown, hts, hin, hE⟩ := id hC
  obtain ⟨hd, ht, rfl⟩ := hd
  exact lv_if_eq hx hb hd ht (fun c' => kt c' p e s m args below meth c Z H locs ls hC hR hW hS hl hz) (fun c' => kf c' p e s m args below meth c Z H locs ls hC hR hW hS hl hz)
theorem gg_iceq {x y : Int32} {off : Int} {tg : Nat} (hd : decode K.2.1 pc = .ok (.if_icmp .eq off, 3) ∧ (pc : Int) + off = (tg : Int) ∧ pc + 3 = nx) (kt : x = y → gg_P Γ K Q cs sl tg L st μ) (kf : ¬ x = y → gg_P Γ K Q cs sl nx L st μ) : gg_P Γ K Q cs sl pc L (.int y :: .int x :: st) μ := by
  intro p e s m args below meth c Z H locs ls hC hR hW hS hl hz
  obtain ⟨hx, hb, hr, hml, hown, hts, hin, hE⟩ := id hC
  obtain ⟨hd, ht, rfl⟩ := hd
  exact lv_icmp_eq hx hb hd ht (fun c' => kt c' p e s m args below meth c Z H locs ls hC hR hW hS hl hz) (fun c' => kf c' p e s m args below meth c Z H locs ls hC hR hW hS hl hz)
theorem gg_ifne {x : Int32} {off : Int} {tg : Nat} (hd : decode K.2.1 pc = .ok (.ifCond .ne off, 3) ∧ (pc : Int) + off = (tg : Int) ∧ pc + 3 = nx) (kt : ¬ x = 0 → gg_P Γ K Q cs sl tg L st μ) (kf : x = 0 → gg_P Γ K Q cs sl nx L st μ) : gg_P Γ K Q cs sl pc L (.int x :: st) μ := by
  intro p e s m args below meth c Z H locs ls hC hR hW hS hl hz
  obtain ⟨hx, hb, hr, hml, hown, hts, hin, hE⟩ := id hC
  obtain ⟨hd, ht, rfl⟩ := hd
  exact lv_if_ne hx hb hd ht (fun c' => kt c' p e s m args below meth c Z H locs ls hC hR hW hS hl hz) (fun c' => kf c' p e s m args below meth c Z H locs ls hC hR hW hS hl hz)
theorem gg_icne {x y : Int32} {off : Int} {tg : Nat} (hd : decode K.2.1 pc = .ok (.if_icmp .ne off, 3) ∧ (pc : Int) + off = (tg : Int) ∧ pc + 3 = nx) (kt : ¬ x = y → gg_P Γ K Q cs sl tg L st μ) (kf : x = y → gg_P Γ K Q cs sl nx L st μ) : gg_P Γ K Q cs sl pc L (.int y :: .int x :: st) μ := by
  intro p e s m args below meth c Z H locs ls hC hR hW hS hl hz
  obtain ⟨hx, hb, hr, hml, hown, hts, hin, hE⟩ := id hC
  obtain ⟨hd, ht, rfl⟩ := hd
  exact lv_icmp_ne hx hb hd ht (fun c' => kt c' p e s m args below meth c Z H locs ls hC hR hW hS hl hz) (fun c' => kf c' p e s m args below meth c Z H locs ls hC hR hW hS hl hz)
theorem gg_iflt {x : Int32} {off : Int} {tg : Nat} (hd : decode K.2.1 pc = .ok (.ifCond .lt off, 3) ∧ (pc : Int) + off = (tg : Int) ∧ pc + 3 = nx) (kt : x < 0 → gg_P Γ K Q cs sl tg L st μ) (kf : ¬ x < 0 → gg_P Γ K Q cs sl nx L st μ) : gg_P Γ K Q cs sl pc L (.int x :: st) μ := by
  intro p e s m args below meth c Z H locs ls hC hR hW hS hl hz
  obtain ⟨hx, hb, hr, hml, hown, hts, hin, hE⟩ := id hC
  obtain ⟨hd, ht, rfl⟩ := hd
  exact lv_if_lt hx hb hd ht (fun c' => kt c' p e s m args below meth c Z H locs ls hC hR hW hS hl hz) (fun c' => kf c' p e s m args below meth c Z H locs ls hC hR hW hS hl hz)
theorem gg_iclt {x y : Int32} {off : Int} {tg : Nat} (hd : decode K.2.1 pc = .ok (.if_icmp .lt off, 3) ∧ (pc : Int) + off = (tg : Int) ∧ pc + 3 = nx) (kt : x < y → gg_P Γ K Q cs sl tg L st μ) (kf : ¬ x < y → gg_P Γ K Q cs sl nx L st μ) : gg_P Γ K Q cs sl pc L (.int y :: .int x :: st) μ := by
  intro p e s m args below meth c Z H locs ls hC hR hW hS hl hz
  obtain ⟨hx, hb, hr, hml, hown, hts, hin, hE⟩ := id hC
  obtain ⟨hd, ht, rfl⟩ := hd
  exact lv_icmp_lt hx hb hd ht (fun c' => kt c' p e s m args below meth c Z H locs ls hC hR hW hS hl hz) (fun c' => kf c' p e s m args below meth c Z H locs ls hC hR hW hS hl hz)
theorem gg_ifge {x : Int32} {off : Int} {tg : Nat} (hd : decode K.2.1 pc = .ok (.ifCond .ge off, 3) ∧ (pc : Int) + off = (tg : Int) ∧ pc + 3 = nx) (kt : 0 ≤ x → gg_P Γ K Q cs sl tg L st μ) (kf : ¬ 0 ≤ x → gg_P Γ K Q cs sl nx L st μ) : gg_P Γ K Q cs sl pc L (.int x :: st) μ := by
  intro p e s m args below meth c Z H locs ls hC hR hW hS hl hz
  obtain ⟨hx, hb, hr, hml, hown, hts, hin, hE⟩ := id hC
  obtain ⟨hd, ht, rfl⟩ := hd
  exact lv_if_ge hx hb hd ht (fun c' => kt c' p e s m args below meth c Z H locs ls hC hR hW hS hl hz) (fun c' => kf c' p e s m args below meth c Z H locs ls hC hR hW hS hl hz)
theorem gg_icge {x y : Int32} {off : Int} {tg : Nat} (hd : decode K.2.1 pc = .ok (.if_icmp .ge off, 3) ∧ (pc : Int) + off = (tg : Int) ∧ pc + 3 = nx) (kt : y ≤ x → gg_P Γ K Q cs sl tg L st μ) (kf : ¬ y ≤ x → gg_P Γ K Q cs sl nx L st μ) : gg_P Γ K Q cs sl pc L (.int y :: .int x :: st) μ := by
  intro p e s m args below meth c Z H locs ls hC hR hW hS hl hz
  obtain ⟨hx, hb, hr, hml, hown, hts, hin, hE⟩ := id hC
  obtain ⟨hd, ht, rfl⟩ := hd
  exact lv_icmp_ge hx hb hd ht (fun c' => kt c' p e s m args below meth c Z H locs ls hC hR hW hS hl hz) (fun c' => kf c' p e s m args below meth c Z H locs ls hC hR hW hS hl hz)
theorem gg_ifgt {x : Int32} {off : Int} {tg : Nat} (hd : decode K.2.1 pc = .ok (.ifCond .gt off, 3) ∧ (pc : Int) + off = (tg : Int) ∧ pc + 3 = nx) (kt : 0 < x → gg_P Γ K Q cs sl tg L st μ) (kf : ¬ 0 < x → gg_P Γ K Q cs sl nx L st μ) : gg_P Γ K Q cs sl pc L (.int x :: st) μ := by
  intro p e s m args below meth c Z H locs ls hC hR hW hS hl hz
  obtain ⟨hx, hb, hr, hml, hown, hts, hin, hE⟩ := id hC
  obtain ⟨hd, ht, rfl⟩ := hd
  exact lv_if_gt hx hb hd ht (fun c' => kt c' p e s m args below meth c Z H locs ls hC hR hW hS hl hz) (fun c' => kf c' p e s m args below meth c Z H locs ls hC hR hW hS hl hz)
theorem gg_icgt {x y : Int32} {off : Int} {tg : Nat} (hd : decode K.2.1 pc = .ok (.if_icmp .gt off, 3) ∧ (pc : Int) + off = (tg : Int) ∧ pc + 3 = nx) (kt : y < x → gg_P Γ K Q cs sl tg L st μ) (kf : ¬ y < x → gg_P Γ K Q cs sl nx L st μ) : gg_P Γ K Q cs sl pc L (.int y :: .int x :: st) μ := by
  intro p e s m args below meth c Z H locs ls hC hR hW hS hl hz
  obtain ⟨hx, hb, hr, hml, hown, hts, hin, hE⟩ := id hC
  obtain ⟨hd, ht, rfl⟩ := hd
  exact lv_icmp_gt hx hb hd ht (fun c' => kt c' p e s m args below meth c Z H locs ls hC hR hW hS hl hz) (fun c' => kf c' p e s m args below meth c Z H locs ls hC hR hW hS hl hz)
theorem gg_ifle {x : Int32} {off : Int} {tg : Nat} (hd : decode K.2.1 pc = .ok (.ifCond .le off, 3) ∧ (pc : Int) + off = (tg : Int) ∧ pc + 3 = nx) (kt : x ≤ 0 → gg_P Γ K Q cs sl tg L st μ) (kf : ¬ x ≤ 0 → gg_P Γ K Q cs sl nx L st μ) : gg_P Γ K Q cs sl pc L (.int x :: st) μ := by
  intro p e s m args below meth c Z H locs ls hC hR hW hS hl hz
  obtain ⟨hx, hb, hr, hml, hown, hts, hin, hE⟩ := id hC
  obtain ⟨hd, ht, rfl⟩ := hd
  exact lv_if_le hx hb hd ht (fun c' => kt c' p e s m args below meth c Z H locs ls hC hR hW hS hl hz) (fun c' => kf c' p e s m args below meth c Z H locs ls hC hR hW hS hl hz)
theorem gg_icle {x y : Int32} {off : Int} {tg : Nat} (hd : decode K.2.1 pc = .ok (.if_icmp .le off, 3) ∧ (pc : Int) + off = (tg : Int) ∧ pc + 3 = nx) (kt : x ≤ y → gg_P Γ K Q cs sl tg L st μ) (kf : ¬ x ≤ y → gg_P Γ K Q cs sl nx L st μ) : gg_P Γ K Q cs sl pc L (.int y :: .int x :: st) μ := by
  intro p e s m args below meth c Z H locs ls hC hR hW hS hl hz
  obtain ⟨hx, hb, hr, hml, hown, hts, hin, hE⟩ := id hC
  obtain ⟨hd, ht, rfl⟩ := hd
  exact lv_icmp_le hx hb hd ht (fun c' => kt c' p e s m args below meth c Z H locs ls hC hR hW hS hl hz) (fun c' => kf c' p e s m args below meth c Z H locs ls hC hR hW hS hl hz)
theorem gg_goto {off : Int} {tg : Nat} (hd : decode K.2.1 pc = .ok (.goto off, 3) ∧ (pc : Int) + off = (tg : Int)) (k : gg_P Γ K Q cs sl tg L st μ) : gg_P Γ K Q cs sl pc L st μ := by
  intro p e s m args below meth c Z H locs ls hC hR hW hS hl hz
  obtain ⟨hx, hb, hr, hml, hown, hts, hin, hE⟩ := id hC
  exact lv_goto hx hb hd.1 hd.2 (k p e s m args below meth c Z H locs ls hC hR hW hS hl hz)
theorem gg_nnull {off : Int} {tg a : Nat} (hd : decode K.2.1 pc = .ok (.ifnonnull off, 3) ∧ (pc : Int) + off = (tg : Int) ∧ pc + 3 = nx) (k : gg_P Γ K Q cs sl tg L st μ) : gg_P Γ K Q cs sl pc L (.ref a :: st) μ := by
  intro p e s m args below meth c Z H locs ls hC hR hW hS hl hz
  obtain ⟨hx, hb, hr, hml, hown, hts, hin, hE⟩ := id hC
  exact lv_ifnonnull hx hb hd.1 hd.2.1 (k p e s m args below meth c Z H locs ls hC hR hW hS hl hz)
theorem gg_nnullN {off : Int} {tg : Nat} (hd : decode K.2.1 pc = .ok (.ifnonnull off, 3) ∧ (pc : Int) + off = (tg : Int) ∧ pc + 3 = nx) (k : gg_P Γ K Q cs sl nx L st μ) : gg_P Γ K Q cs sl pc L (.null :: st) μ := by
  intro p e s m args below meth c Z H locs ls hC hR hW hS hl hz
  obtain ⟨hx, hb, hr, hml, hown, hts, hin, hE⟩ := id hC
  obtain ⟨hd, ht, rfl⟩ := hd
  exact lv_ifnonnullN hx hb hd (k p e s m args below meth c Z H locs ls hC hR hW hS hl hz)
/-- a table of jumps: its targets in order, and the default one -/
theorem gg_tab {df lo : Int} {hi : Int} {offs : Array Int} {len dt : Nat} {x : Int32} (tg : List Nat) (hd : decode K.2.1 pc = .ok (.tableswitch df lo hi offs, len) ∧ (pc : Int) + df = (dt : Int) ∧ hi + 1 - lo = (tg.length : Int) ∧ offs.toList.map (fun o => (pc : Int) + o) = tg.map (fun t : Nat => (t : Int))) (kin : ∀ i t : Nat, x.toInt = lo + i → tg[i]? = some t → gg_P Γ K Q cs sl t L st μ) (kout : x.toInt < lo ∨ hi < x.toInt → gg_P Γ K Q cs sl dt L st μ) : gg_P Γ K Q cs sl pc L (.int x :: st) μ := by
  intro p e s m args below meth c Z H locs ls hC hR hW hS hl hz
  obtain ⟨hx, hb, hr, hml, hown, hts, hin, hE⟩ := id hC
  obtain ⟨hd, h1, h2, h3⟩ := hd
  by_cases hout : x.toInt < lo ∨ hi < x.toInt
  · exact lv_tableOut hx hb hd hout h1 (kout hout p e s m args below meth c Z H locs ls hC hR hW hS hl hz)
  · have a1 : ¬ x.toInt < lo := fun q => hout (Or.inl q)
    have a2 : ¬ hi < x.toInt := fun q => hout (Or.inr q)
    have hlt : (x.toInt - lo).toNat < tg.length := by omega
    have e1 := congrArg (fun l => l[(x.toInt - lo).toNat]?) h3
    simp only [List.getElem?_map, List.getElem?_eq_getElem hlt, Option.map_some] at e1
    cases ho : offs.toList[(x.toInt - lo).toNat]? with
    | none => rw [ho] at e1; cases e1
    | some off =>
      rw [ho] at e1
      have e2 := Option.some.inj e1
      refine lv_tableIn (tgt := tg[(x.toInt - lo).toNat]) hx hb hd a1 a2 (by rw [← Array.getElem?_toList]; exact ho) e2 (kin (x.toInt - lo).toNat _ (by omega) (List.getElem?_eq_getElem hlt) p e s m args below meth c Z H locs ls hC hR hW hS hl hz)
theorem fv_get (g : Nat → Int32) : ∀ (fl : List (Option (Option Nat))) (j k : Nat), (fv_l g j fl)[k]? = (fl[k]?).map (fun f => match f with | none => Value.int (g (j + k)) | some x => va_rf x) := by
  intro fl
  induction fl with
  | nil => intro j k; simp [fv_l]
  | cons f r ih =>
    intro j k
    cases k with
    | zero => cases f <;> simp [fv_l]
    | succ k =>
      cases f with
      | none => simp only [fv_l, List.getElem?_cons_succ, ih]; rw [show j + 1 + k = j + (k + 1) by omega]
      | some x => simp only [fv_l, List.getElem?_cons_succ, ih]; rw [show j + 1 + k = j + (k + 1) by omega]
theorem fv_int {g : Nat → Int32} {fl : List (Option (Option Nat))} {k : Nat} (h : fl[k]? = some none) : vp_V (fv_l g 0 fl) k = .int (g k) := by
  have := fv_get g fl 0 k
  rw [h] at this
  simp [vp_V, this]
theorem fv_ref {g : Nat → Int32} {fl : List (Option (Option Nat))} {k : Nat} {x : Option Nat} (h : fl[k]? = some (some x)) : vp_V (fv_l g 0 fl) k = va_rf x := by
  have := fv_get g fl 0 k
  rw [h] at this
  simp [vp_V, this]
theorem fv_setI {g : Nat → Int32} {fl : List (Option (Option Nat))} {k : Nat} (h : fl[k]? = some none) (v : Int32) (j : Nat) : updV (vp_V (fv_l g 0 fl)) k (.int v) j = vp_V (fv_l (upd g k v) 0 fl) j := by
  unfold updV
  by_cases hj : j = k
  · subst hj
    rw [if_pos rfl, fv_int h]
    simp [upd]
  · rw [if_neg hj]
    have h1 := fv_get g fl 0 j
    have h2 := fv_get (upd g k v) fl 0 j
    unfold vp_V
    rw [List.getD_eq_getElem?_getD, List.getD_eq_getElem?_getD, h1, h2]
    cases fl[j]? with
    | none => rfl
    | some f => cases f <;> simp [upd, hj]
theorem fv_setR {g : Nat → Int32} {fl : List (Option (Option Nat))} {k b : Nat} (h : k < fl.length) (j : Nat) : updV (vp_V (fv_l g 0 fl)) k (.ref b) j = vp_V (fv_l g 0 (fl.set k (some (some b)))) j := by
  unfold updV
  have h2 := fv_get g (fl.set k (some (some b))) 0 j
  by_cases hj : j = k
  · subst hj
    rw [if_pos rfl]
    rw [List.getElem?_set_self h] at h2
    simp [vp_V, h2, va_rf]
  · rw [if_neg hj]
    have h1 := fv_get g fl 0 j
    rw [List.getElem?_set_ne (Ne.symm hj)] at h2
    unfold vp_V
    rw [List.getD_eq_getElem?_getD, List.getD_eq_getElem?_getD, h1, h2]
/-- what the tables say of each class -/
theorem cls_ok : ∀ (ci : Nat) (r : vw_C), vwCl[ci]? = some r → (∀ w ∈ u_ws r.1 r.2.1 r.2.2, w ∈ wd_all) ∧ (∃ ty : Nat → FieldType, ∀ k, k < r.2.2 → parseFieldDescriptor (r.2.1 k).2.2.1 = some (ty k)) ∧ (∀ a, a < r.2.2 → ∀ b, b < r.2.2 → a ≠ b → (r.2.1 a).2.1 ≠ (r.2.1 b).2.1) := by
  have hin : ∀ r ∈ vwCl, ∀ w ∈ u_ws r.1 r.2.1 r.2.2, w ∈ lw_tbl ∧ goodWord w = true := by decide +kernel
  intro ci r h
  refine ⟨fun w hw => List.mem_filter.mpr (hin r (List.mem_of_getElem? h) w hw), ?_⟩
  match ci, h with
  | 0, h => cases h; exact ⟨⟨tyX0, tyX0_ok⟩, nmX0⟩
  | 1, h => cases h; exact ⟨⟨tyX1, tyX1_ok⟩, nmX1⟩
  | 2, h => cases h; exact ⟨⟨tyX2, tyX2_ok⟩, nmX2⟩
  | 3, h => cases h; exact ⟨⟨tyX4, tyX4_ok⟩, nmX4⟩
  | 4, h => cases h; exact ⟨⟨tyX5, tyX5_ok⟩, nmX5⟩
  | 5, h => cases h; exact ⟨⟨tyX6, tyX6_ok⟩, nmX6⟩
  | 6, h => cases h; exact ⟨⟨tyX7, tyX7_ok⟩, nmX7⟩
  | n + 7, h => simp [vwCl] at h
def lf_P (own : String) (idx ci k : Nat) : Prop := ∃ r : vw_C, vwCl[ci]? = some r ∧ k < r.2.2 ∧ Cond.fieldLink own idx (r.2.1 k).1 (r.2.1 k).2.1 (r.2.1 k).2.2.1 ∈ wd_all
def lp_P (own : String) (idx ci k : Nat) (z : Bool) : Prop := ∃ r : vw_C, vwCl[ci]? = some r ∧ k < r.2.2 ∧ Cond.fieldLink own idx (r.2.1 k).1 (r.2.1 k).2.1 (r.2.1 k).2.2.1 ∈ wd_all ∧ (r.2.1 k).2.2.2 = false ∧ (r.2.1 k).2.2.1 = (if z then "Z" else "I")
def lr_P (own : String) (idx ci k : Nat) : Prop := ∃ r : vw_C, vwCl[ci]? = some r ∧ k < r.2.2 ∧ Cond.fieldLink own idx (r.2.1 k).1 (r.2.1 k).2.1 (r.2.1 k).2.2.1 ∈ wd_all ∧ (r.2.1 k).2.2.2 = true ∧ (r.2.1 k).1 = own ∧ ∃ ty, parseFieldDescriptor (r.2.1 k).2.2.1 = some ty ∧ ∀ b : Nat, narrow ty (.ref b) = .ref b ∧ fits ty (.ref b) = true
theorem gg_get0 {idx ci k a : Nat} {fl : List (Option (Option Nat))} {v : Value} (hd : decode K.2.1 pc = .ok (.getfield idx, 3) ∧ pc + 3 = nx) (hf : lf_P K.1.cls idx ci k) (hs : μ.1.2 a = .inr (.inr (ci, fl))) (hv : vp_V (fv_l (μ.2 a) 0 fl) k = v) (kk : gg_P Γ K Q cs sl nx L (v :: st) μ) : gg_P Γ K Q cs sl pc L (.ref a :: st) μ := by
  intro p e s m args below meth c Z H locs ls hC hR hW hS hl hz
  obtain ⟨hx, hb, hr, hml, hown, hts, hin, hE⟩ := id hC
  obtain ⟨hd, rfl⟩ := hd
  obtain ⟨r, hr, hk, hlink⟩ := hf
  obtain ⟨hin9, -, -⟩ := cls_ok ci r hr
  have hW9 := hW.2.2.2.2.2 a
  rw [hs] at hW9
  obtain ⟨⟨r', h1, cell, q1, q2, q3, q4⟩, -⟩ := hW9
  cases h1.symm.trans hr
  obtain ⟨hS9, hfc, kC, hkC, hkind⟩ := hW.1.1 ci _ hr
  obtain ⟨cf, kf, fi, f, hi, hsl⟩ := hS9 k hk
  refine W.getf hx hb hown (hts _ hlink) hi (u_facts hfc hkC (u_lays hts hin9 hk) hi).1 q1 (by rw [q3]; exact fun h => by cases h) (v := v) ?_ rfl rfl hd (kk p e s m args below meth c Z H locs ls hC hR hW hS hl hz)
  rw [hsl, q4 k hk, hv]
/-- an int field is read -/
theorem gg_geti {idx ci k a : Nat} {fl : List (Option (Option Nat))} (hd : decode K.2.1 pc = .ok (.getfield idx, 3) ∧ pc + 3 = nx) (hf : lf_P K.1.cls idx ci k) (hs : μ.1.2 a = .inr (.inr (ci, fl))) (hk : fl[k]? = some none) (kk : gg_P Γ K Q cs sl nx L (.int (μ.2 a k) :: st) μ) : gg_P Γ K Q cs sl pc L (.ref a :: st) μ := gg_get0 hd hf hs (fv_int hk) kk
/-- a reference field is read -/
theorem gg_getr {idx ci k a b : Nat} {fl : List (Option (Option Nat))} (hd : decode K.2.1 pc = .ok (.getfield idx, 3) ∧ pc + 3 = nx) (hf : lf_P K.1.cls idx ci k) (hs : μ.1.2 a = .inr (.inr (ci, fl))) (hk : fl[k]? = some (some (some b))) (kk : gg_P Γ K Q cs sl nx L (.ref b :: st) μ) : gg_P Γ K Q cs sl pc L (.ref a :: st) μ := gg_get0 hd hf hs (fv_ref hk) kk
/-- an int field is written -/
theorem gg_put0 {idx ci k a : Nat} {z : Bool} {fl : List (Option (Option Nat))} {v : Int32} {τ : Nat × (Nat → sh_T)} {ν : Nat → Nat → Int32} (hd : decode K.2.1 pc = .ok (.putfield idx, 3) ∧ pc + 3 = nx) (hf : lp_P K.1.cls idx ci k z) (hs : τ.2 a = .inr (.inr (ci, fl))) (hk9 : fl[k]? = some none) (hv : z = false ∨ v = 0 ∨ v = 1) (kk : gg_P Γ K Q cs sl nx L st (τ, up_2 ν a k v)) : gg_P Γ K Q cs sl pc L (.int v :: .ref a :: st) (τ, ν) := by
  intro p e s m args below meth c Z H locs ls hC hR hW hS hl hz
  obtain ⟨hx, hb, hr, hml, hown, hts, hin, hE⟩ := id hC
  obtain ⟨hd, rfl⟩ := hd
  obtain ⟨r, hr, hk, hlink, hfin, hdesc⟩ := hf
  obtain ⟨hin9, ⟨ty9, hty9⟩, hnm9⟩ := cls_ok ci r hr
  have hW9 := hW.2.2.2.2.2 a
  have hs' : ((τ, ν) : mm_T).1.2 a = .inr (.inr (ci, fl)) := hs
  rw [hs'] at hW9
  obtain ⟨⟨r', h1, cell, q1, q2, q3, q4⟩, hlo⟩ := hW9
  cases h1.symm.trans hr
  have hap := va_apart (own := K.1.cls) hts hin9 ty9 hty9 hnm9 hW.1 hr
  obtain ⟨hS9, hfc, kC, hkC, hkind⟩ := hW.1.1 ci _ hr
  obtain ⟨cf, kf, fi, f, hi, hsl⟩ := hS9 k hk
  have hlay := hts _ (hin9 _ (u_in_lay hk))
  unfold u_lay at hlay
  rw [if_neg (by rw [hfin]; decide)] at hlay
  have hst := (u_facts hfc hkC (u_lays hts hin9 hk) hi).1
  have h6 : k2_Sd s f (Γ.2.1.1 ci) (.int v) := by
    cases z with
    | false =>
      exact u_store (ty := .int) hfc hkC hkind hlay hi (by rw [hdesc]; decide +kernel) rfl rfl
    | true =>
      have hv' : v = 0 ∨ v = 1 := by rcases hv with h | h; cases h; exact h
      refine u_store (ty := .boolean) hfc hkC hkind hlay hi (by rw [hdesc]; decide +kernel) ?_ ?_
      · rcases hv' with rfl | rfl <;> rfl
      · rcases hv' with rfl | rfl <;> rfl
  refine W.putK hx hb (f := f) ⟨hown, hts _ hlink, ⟨_, _, _, hi⟩, hst⟩ (by rw [q2]; exact h6) q1 q3 (by rw [hsl]; exact k2_hasslot (q4 k hk)) rfl rfl hd fun H' e1 e2 e3 => ?_
  rw [hsl] at e1 ⊢
  refine kk p e s m args below meth c Z H' _ ls hC hR ?_ (hS.put e2 e3 hlo) hl hz
  refine wm_put hW e2 e3 hlo (fun b hb => by funext j; simp [up_2, hb]) ?_
  rw [hs]
  refine ⟨⟨_, hr, t_OB.to (V := updV (vp_V (fv_l (ν a) 0 fl)) k (.int v)) ⟨_, e1, q2, q3, t_set q4 hap hk (.int v)⟩ (fun j _ => ?_)⟩, hlo⟩
  rw [fv_setI hk9]
  have : upd (ν a) k v = up_2 ν a k v a := by funext j; simp [upd, up_2]
  rw [this]
theorem gg_puti {idx ci k a : Nat} {fl : List (Option (Option Nat))} {v : Int32} {τ : Nat × (Nat → sh_T)} {ν : Nat → Nat → Int32} (hd : decode K.2.1 pc = .ok (.putfield idx, 3) ∧ pc + 3 = nx) (hf : lp_P K.1.cls idx ci k false) (hs : τ.2 a = .inr (.inr (ci, fl))) (hk9 : fl[k]? = some none) (kk : gg_P Γ K Q cs sl nx L st (τ, up_2 ν a k v)) : gg_P Γ K Q cs sl pc L (.int v :: .ref a :: st) (τ, ν) := gg_put0 hd hf hs hk9 (Or.inl rfl) kk
theorem gg_putz {idx ci k a : Nat} {fl : List (Option (Option Nat))} {v : Int32} {τ : Nat × (Nat → sh_T)} {ν : Nat → Nat → Int32} (hd : decode K.2.1 pc = .ok (.putfield idx, 3) ∧ pc + 3 = nx) (hf : lp_P K.1.cls idx ci k true) (hs : τ.2 a = .inr (.inr (ci, fl))) (hk9 : fl[k]? = some none) (hv : v = 0 ∨ v = 1) (kk : gg_P Γ K Q cs sl nx L st (τ, up_2 ν a k v)) : gg_P Γ K Q cs sl pc L (.int v :: .ref a :: st) (τ, ν) := gg_put0 hd hf hs hk9 (Or.inr hv) kk
/-- a final field of references is written, in the class's own constructor -/
theorem gg_putr {idx ci k a b : Nat} {fl : List (Option (Option Nat))} {τ : Nat × (Nat → sh_T)} {ν : Nat → Nat → Int32} (hd : decode K.2.1 pc = .ok (.putfield idx, 3) ∧ pc + 3 = nx) (hi9 : K.1.name = "<init>") (hf : lr_P K.1.cls idx ci k) (hs : τ.2 a = .inr (.inr (ci, fl))) (hk9 : k < fl.length) (kk : gg_P Γ K Q cs sl nx L st ((τ.1, va_up τ.2 a (.inr (.inr (ci, fl.set k (some (some b)))))), ν)) : gg_P Γ K Q cs sl pc L (.ref b :: .ref a :: st) (τ, ν) := by
  intro p e s m args below meth c Z H locs ls hC hR hW hS hl hz
  obtain ⟨hx, hb, hr, hml, hown, hts, hin, hE⟩ := id hC
  obtain ⟨hd, rfl⟩ := hd
  obtain ⟨r, hr, hk, hlink, hfin, hdecl, ty, hty, hnf⟩ := hf
  obtain ⟨hin9, ⟨ty9, hty9⟩, hnm9⟩ := cls_ok ci r hr
  have hW9 := hW.2.2.2.2.2 a
  have hs' : ((τ, ν) : mm_T).1.2 a = .inr (.inr (ci, fl)) := hs
  rw [hs'] at hW9
  obtain ⟨⟨r', h1, cell, q1, q2, q3, q4⟩, hlo⟩ := hW9
  cases h1.symm.trans hr
  have hap := va_apart (own := K.1.cls) hts hin9 ty9 hty9 hnm9 hW.1 hr
  obtain ⟨hS9, hfc, kC, hkC, hkind⟩ := hW.1.1 ci _ hr
  obtain ⟨cf, kf, fi, f, hi, hsl⟩ := hS9 k hk
  have hlay := hts _ (hin9 _ (u_in_lay hk))
  unfold u_lay at hlay
  rw [if_pos hfin] at hlay
  have hst := (u_facts hfc hkC (u_lays hts hin9 hk) hi).1
  have hcf : m.cls = cf := by
    obtain ⟨_, _, c', _, _, _, -, -, hf', -, -, -, hown2, -⟩ := Cond.laysFinal_spec hlay
    have e1 : c' = cf := by have := hi.symm.trans hf'; simp at this; exact this.1.symm
    rw [hdecl] at hown2
    rw [← e1]; exact Option.some.inj (hown.symm.trans hown2)
  have h6 := u_fits hfc hkC hkind (Or.inr hlay) hi hty (hnf b).1 (hnf b).2
  refine W.putFinK hx hb hown (hts _ hlink) hi hst hcf (hin.trans hi9) (by rw [q2]; exact h6) q1 q3 (by rw [hsl]; exact k2_hasslot (q4 k hk)) rfl rfl hd fun H' e1 e2 e3 => ?_
  rw [hsl] at e1 ⊢
  refine kk p e s m args below meth c Z H' _ ls hC hR ?_ (hS.put e2 e3 hlo) hl hz
  refine wm_putS hW e2 e3 hlo ?_
  exact ⟨⟨_, hr, t_OB.to (V := updV (vp_V (fv_l (ν a) 0 fl)) k (.ref b)) ⟨_, e1, q2, q3, t_set q4 hap hk (.ref b)⟩ (fun j _ => fv_setR hk9 j)⟩, hlo⟩
/-- an int is read out of an array -/
theorem gg_iald {a n : Nat} {i : Int32} (hd : decode K.2.1 pc = .ok (.iaload, 1) ∧ pc + 1 = nx) (hs : μ.1.2 a = .inl (0, n)) (hin : vp_in i n) (kk : gg_P Γ K Q cs sl nx L (.int (μ.2 a i.toNatClampNeg) :: st) μ) : gg_P Γ K Q cs sl pc L (.int i :: .ref a :: st) μ := by
  intro p e s m args below meth c Z H locs ls hC hR hW hS hl hz
  obtain ⟨hx, hb, hr, hml, hown, hts, hin, hE⟩ := id hC
  obtain ⟨hd, rfl⟩ := hd
  have hin : vp_in i n := by assumption
  have hlt : i.toNatClampNeg < n := Nat.not_le.mp fun q => hin (Or.inr q)
  have hW9 := hW.2.2.2.2.2 a
  rw [hs] at hW9
  have hA := (hW.1.2 0 (cx_cI Γ, .int) rfl).1
  exact W.iald (v := .int (μ.2 a i.toNatClampNeg)) hx hb hW9.1 (hA n (fun j => .int (μ.2 a j))) (fun q => by cases q) (by rw [arrV_size]; exact hin) (by rw [arrV_read _ _ hlt]) rfl rfl hd (kk p e s m args below meth c Z H locs ls hC hR hW hS hl hz)
theorem gg_iald2 {a n : Nat} {i : Int32} (hd : decode K.2.1 pc = .ok (.iaload, 1) ∧ pc + 1 = nx) (hs : μ.1.2 a = .inl (2, n)) (hin : vp_in i n) (kk : gg_P Γ K Q cs sl nx L (.int (μ.2 a i.toNatClampNeg) :: st) μ) : gg_P Γ K Q cs sl pc L (.int i :: .ref a :: st) μ := by
  intro p e s m args below meth c Z H locs ls hC hR hW hS hl hz
  obtain ⟨hx, hb, hr, hml, hown, hts, hin, hE⟩ := id hC
  obtain ⟨hd, rfl⟩ := hd
  have hin : vp_in i n := by assumption
  have hlt : i.toNatClampNeg < n := Nat.not_le.mp fun q => hin (Or.inr q)
  have hW9 := hW.2.2.2.2.2 a
  rw [hs] at hW9
  obtain ⟨cell, h1, h2, h3, h4, h5, h6, h7⟩ := hW9
  refine W.iald (v := .int (μ.2 a i.toNatClampNeg)) hx hb h1 h2 h3 (fun q => ?_) (h6 _ hlt) rfl rfl hd (kk p e s m args below meth c Z H locs ls hC hR hW hS hl hz)
  rcases q with q | q
  · exact hin (Or.inl q)
  · omega
theorem gg_bald {a n : Nat} {i : Int32} (hd : decode K.2.1 pc = .ok (.baload, 1) ∧ pc + 1 = nx) (hs : μ.1.2 a = .inl (1, n)) (hin : vp_in i n) (kk : gg_P Γ K Q cs sl nx L (.int (μ.2 a i.toNatClampNeg) :: st) μ) : gg_P Γ K Q cs sl pc L (.int i :: .ref a :: st) μ := by
  intro p e s m args below meth c Z H locs ls hC hR hW hS hl hz
  obtain ⟨hx, hb, hr, hml, hown, hts, hin, hE⟩ := id hC
  obtain ⟨hd, rfl⟩ := hd
  have hin : vp_in i n := by assumption
  have hlt : i.toNatClampNeg < n := Nat.not_le.mp fun q => hin (Or.inr q)
  have hW9 := hW.2.2.2.2.2 a
  rw [hs] at hW9
  have hA := (hW.1.2 1 (cx_cB Γ, .byte) rfl).1
  exact W.bald (v := .int (μ.2 a i.toNatClampNeg)) hx hb hW9.1 (hA n (fun j => .int (μ.2 a j))) (fun q => by cases q) (by rw [arrV_size]; exact hin) (by rw [arrV_read _ _ hlt]) rfl rfl hd (kk p e s m args below meth c Z H locs ls hC hR hW hS hl hz)
theorem gg_aald {a n : Nat} {f : Nat → Option Nat} {i : Int32} (hd : decode K.2.1 pc = .ok (.aaload, 1) ∧ pc + 1 = nx) (hs : μ.1.2 a = .inr (.inl (n, f))) (hin : vp_in i n) (kk : gg_P Γ K Q cs sl nx L (va_rf (f i.toNatClampNeg) :: st) μ) : gg_P Γ K Q cs sl pc L (.int i :: .ref a :: st) μ := by
  intro p e s m args below meth c Z H locs ls hC hR hW hS hl hz
  obtain ⟨hx, hb, hr, hml, hown, hts, hin, hE⟩ := id hC
  obtain ⟨hd, rfl⟩ := hd
  have hin : vp_in i n := by assumption
  have hlt : i.toNatClampNeg < n := Nat.not_le.mp fun q => hin (Or.inr q)
  have hW9 := hW.2.2.2.2.2 a
  rw [hs] at hW9
  have hA := (hW.1.2 2 (cx_cA Γ, .object "FeedAxis$Axis") rfl).1
  exact W.aald (v := va_rf (f i.toNatClampNeg)) (ty := .object "FeedAxis$Axis") hx hb hW9.1 (hA n (fun j => va_rf (f j))) rfl (fun q => by cases q) (by rw [arrV_size]; exact hin) (by rw [arrV_read _ _ hlt]) rfl rfl hd (kk p e s m args below meth c Z H locs ls hC hR hW hS hl hz)
/-- an int is written into an array -/
theorem gg_iast {a n : Nat} {i v : Int32} {τ : Nat × (Nat → sh_T)} {ν : Nat → Nat → Int32} (hd : decode K.2.1 pc = .ok (.iastore, 1) ∧ pc + 1 = nx) (hs : τ.2 a = .inl (0, n)) (hin : vp_in i n) (kk : gg_P Γ K Q cs sl nx L st (τ, up_2 ν a i.toNatClampNeg v)) : gg_P Γ K Q cs sl pc L (.int v :: .int i :: .ref a :: st) (τ, ν) := by
  intro p e s m args below meth c Z H locs ls hC hR hW hS hl hz
  obtain ⟨hx, hb, hr, hml, hown, hts, hin, hE⟩ := id hC
  obtain ⟨hd, rfl⟩ := hd
  have hin : vp_in i n := by assumption
  have hW9 := hW.2.2.2.2.2 a
  have hs' : ((τ, ν) : mm_T).1.2 a = .inl (0, n) := hs
  rw [hs'] at hW9
  have hA := (hW.1.2 0 (cx_cI Γ, .int) rfl).1
  refine W.iast hx hb hW9.1 (hA n _) (fun q => by cases q) (by rw [arrV_size]; exact hin) rfl rfl hd fun H1 e z oq => ?_
  refine kk p _ s m args below meth c Z H1 _ ls hC hR ?_ (hS.put z oq hW9.2) hl hz
  refine wm_put hW z oq hW9.2 (fun b hb => by funext j; simp [up_2, hb]) ?_
  rw [hs]
  refine ⟨?_, hW9.2⟩
  rw [e, arrV_store]
  congr 2
  funext q
  by_cases hq : q = i.toNatClampNeg
  · subst hq; simp [updV, up_2]
  · simp [updV, up_2, hq]
theorem gg_bast {a n : Nat} {i v : Int32} {τ : Nat × (Nat → sh_T)} {ν : Nat → Nat → Int32} (hd : decode K.2.1 pc = .ok (.bastore, 1) ∧ pc + 1 = nx) (hs : τ.2 a = .inl (1, n)) (hin : vp_in i n) (kk : gg_P Γ K Q cs sl nx L st (τ, up_2 ν a i.toNatClampNeg v.toInt8.toInt32)) : gg_P Γ K Q cs sl pc L (.int v :: .int i :: .ref a :: st) (τ, ν) := by
  intro p e s m args below meth c Z H locs ls hC hR hW hS hl hz
  obtain ⟨hx, hb, hr, hml, hown, hts, hin, hE⟩ := id hC
  obtain ⟨hd, rfl⟩ := hd
  have hin : vp_in i n := by assumption
  have hW9 := hW.2.2.2.2.2 a
  have hs' : ((τ, ν) : mm_T).1.2 a = .inl (1, n) := hs
  rw [hs'] at hW9
  have hA := (hW.1.2 1 (cx_cB Γ, .byte) rfl).1
  refine W.bast hx hb hW9.1 (hA n _) (fun q => by cases q) (by rw [arrV_size]; exact hin) rfl rfl hd fun H1 e z oq => ?_
  refine kk p _ s m args below meth c Z H1 _ ls hC hR ?_ (hS.put z oq hW9.2) hl hz
  refine wm_put hW z oq hW9.2 (fun b hb => by funext j; simp [up_2, hb]) ?_
  rw [hs]
  refine ⟨?_, hW9.2⟩
  rw [e, arrV_store]
  congr 2
  funext q
  by_cases hq : q = i.toNatClampNeg
  · subst hq; simp [updV, up_2, narrow]
  · simp [updV, up_2, hq]
/-- an Axis is put into an array of them -/
theorem gg_aast {a n b : Nat} {f : Nat → Option Nat} {fl : List (Option (Option Nat))} {i : Int32} {τ : Nat × (Nat → sh_T)} {ν : Nat → Nat → Int32} (hd : decode K.2.1 pc = .ok (.aastore, 1) ∧ pc + 1 = nx) (hs : τ.2 a = .inr (.inl (n, f))) (hsb : τ.2 b = .inr (.inr (0, fl))) (hin : vp_in i n) (kk : gg_P Γ K Q cs sl nx L st ((τ.1, va_up τ.2 a (.inr (.inl (n, va_up f i.toNatClampNeg (some b))))), ν)) : gg_P Γ K Q cs sl pc L (.ref b :: .int i :: .ref a :: st) (τ, ν) := by
  intro p e s m args below meth c Z H locs ls hC hR hW hS hl hz
  obtain ⟨hx, hb, hr, hml, hown, hts, hin, hE⟩ := id hC
  obtain ⟨hd, rfl⟩ := hd
  have hin : vp_in i n := by assumption
  have hW9 := hW.2.2.2.2.2 a
  have hs' : ((τ, ν) : mm_T).1.2 a = .inr (.inl (n, f)) := hs
  rw [hs'] at hW9
  have hWb := hW.2.2.2.2.2 b
  have hsb' : ((τ, ν) : mm_T).1.2 b = .inr (.inr (0, fl)) := hsb
  rw [hsb'] at hWb
  obtain ⟨⟨r', hr', cellV, g1, g2, g3, -⟩, -⟩ := hWb
  have hcls := (hW.1.1 0 (RX0, TX0, 14) rfl).2
  obtain ⟨kA, comp, k1, k2, k3, -⟩ := (hW.1.2 2 (cx_cA Γ, .object "FeedAxis$Axis") rfl).2
  have hcomp : comp = Γ.2.1.1 0 := Option.some.inj (k3.symm.trans hcls.1)
  subst hcomp
  obtain ⟨kC, hkC, -⟩ := hcls.2
  have hlt : i.toNatClampNeg < n := Nat.not_le.mp fun q => hin (Or.inr q)
  have h0 : ¬ i < 0 := fun q => hin (Or.inl q)
  refine W.aast hx hb hW9.1 (fun q h => by cases h) (fun h => by cases h) k1 k2 rfl hkC ⟨h0, by rw [arrV_size]; exact hlt⟩ g1 (fun q h => by rw [g3] at h; cases h) (by rw [g2]; exact hkC) (by rw [g2]; exact va_assign hcls) rfl rfl hd fun H1 e z oq => ?_
  refine kk p _ s m args below meth c Z H1 _ ls hC hR ?_ (hS.put z oq hW9.2) hl hz
  refine wm_putS hW z oq hW9.2 ?_
  refine ⟨?_, hW9.2⟩
  rw [e, arrV_store]
  congr 2
  funext q
  by_cases hq : q = i.toNatClampNeg
  · subst hq; simp [updV, va_up, va_rf]
  · simp [updV, va_up, hq]
theorem gg_alen {a n : Nat} {v : Int32} (hd : decode K.2.1 pc = .ok (.arraylength, 1) ∧ pc + 1 = nx) (hs : μ.1.2 a = .inl (0, n) ∨ μ.1.2 a = .inl (2, n) ∨ (∃ f, μ.1.2 a = .inr (.inl (n, f)))) (hv : Int32.ofNat n = v) (kk : gg_P Γ K Q cs sl nx L (.int v :: st) μ) : gg_P Γ K Q cs sl pc L (.ref a :: st) μ := by
  intro p e s m args below meth c Z H locs ls hC hR hW hS hl hz
  obtain ⟨hx, hb, hr, hml, hown, hts, hin, hE⟩ := id hC
  obtain ⟨hd, rfl⟩ := hd
  subst hv
  have k' := kk p e s m args below meth c Z H locs ls hC hR hW hS hl hz
  have hW9 := hW.2.2.2.2.2 a
  rcases hs with hs | hs | ⟨f, hs⟩
  · rw [hs] at hW9
    exact W.alen (n := Int32.ofNat n) hx hb hW9.1 ((hW.1.2 0 (cx_cI Γ, .int) rfl).1 n _) (by rw [arrV_size]) rfl rfl hd k'
  · rw [hs] at hW9
    obtain ⟨cell, h1, h2, h3, h4, h5, h6, h7⟩ := hW9
    exact W.alen (n := Int32.ofNat n) hx hb h1 h2 h5 rfl rfl hd k'
  · rw [hs] at hW9
    exact W.alen (n := Int32.ofNat n) hx hb hW9.1 ((hW.1.2 2 (cx_cA Γ, .object "FeedAxis$Axis") rfl).1 n _) (by rw [arrV_size]) rfl rfl hd k'
theorem gg_gets {idx a : Nat} {n : String} (hd : decode K.2.1 pc = .ok (.getstatic idx, 3) ∧ pc + 3 = nx) (ha : (n = "LEAST" ∧ a = cx_aL Γ) ∨ (n = "GREATEST" ∧ a = cx_aG Γ)) (hw : Cond.fieldLink K.1.cls idx "FeedAxis$Axis" n "[I" ∈ wd_all) (kk : gg_P Γ K Q cs sl nx L (.ref a :: st) μ) : gg_P Γ K Q cs sl pc L st μ := by
  intro p e s m args below meth c Z H locs ls hC hR hW hS hl hz
  obtain ⟨hx, hb, hr, hml, hown, hts, hin, hE⟩ := id hC
  obtain ⟨hd, rfl⟩ := hd
  have hZ : va_Z "FeedAxis$Axis" n "[I" (.ref a) (fun q => cx_lo Γ ≤ q) s H := by
    rcases ha with ⟨rfl, rfl⟩ | ⟨rfl, rfl⟩
    · exact hW.2.1
    · exact hW.2.2.1
  obtain ⟨cf, kf, fi, f, a9, cell, h1, h2, h3, h4, h5, h6, h7, h8⟩ := hZ
  exact W.gets hx hb hown (hts _ hw) h1 h2 h3 h4 h5 (fun e => by rw [e] at h6; cases h6) h7 rfl hd (kk p e s m args below meth c Z H locs ls hC hR hW hS hl hz)
theorem gg_obj {idx a : Nat} (hd : decode K.2.1 pc = .ok (.invokespecial idx, 3) ∧ pc + 3 = nx) (hw : Cond.methodLink K.1.cls idx Lib.objectInit ∈ wd_all ∧ Cond.instanceMethod Lib.objectInit ∈ wd_all ∧ Cond.code Lib.objectInit ⟨#[0xb1]⟩ 1 none ∈ wd_all) (hrm : 1 ≤ (mt_rm K).frames ∧ (st.map fun v => v.category).sum + 12 ≤ (mt_rm K).locals) (kk : gg_P Γ K Q cs sl nx L st μ) : gg_P Γ K Q cs sl pc L (.ref a :: st) μ := by
  intro p e s m args below meth c Z H locs ls hC hR hW hS hl hz
  obtain ⟨hx, hb, hr, hml, hown, hts, hin, hE⟩ := id hC
  obtain ⟨hd, rfl⟩ := hd
  exact W.objInit hx hb hown (hts _ hw.1) (hts _ hw.2.1) (hts _ hw.2.2) rfl (hl.1.trans hml.symm) rfl hd hrm.1 (by show 2 * 0 + _ + 12 ≤ _; omega) (kk p e s m args below meth c Z H locs ls hC hR hW hS hl hz)
theorem gg_iret {x : Int32} (hd : decode K.2.1 pc = .ok (.ireturn, 1)) (hr9 : K.2.2.2.1 = some .int) (hc : cs ≤ (mt_rm K).cells ∧ sl ≤ (mt_rm K).slots) (hq : Q (some (.int x)) μ) : gg_P Γ K Q cs sl pc L [.int x] μ := by
  intro p e s m args below meth c Z H locs ls hC hR hW hS hl hz
  obtain ⟨hx, hb, hr, hml, hown, hts, hin, hE⟩ := id hC
  exact W.widen hc.1 hc.2 (hR pc ls (some (.int x)) H locs μ (Or.inr (Or.inl ⟨x, rfl, Or.inl hr9, hd⟩)) hW hS hq)
theorem gg_zret {x : Int32} (hd : decode K.2.1 pc = .ok (.ireturn, 1)) (hr9 : K.2.2.2.1 = some .boolean) (hx9 : x = 0 ∨ x = 1) (hc : cs ≤ (mt_rm K).cells ∧ sl ≤ (mt_rm K).slots) (hq : Q (some (.int x)) μ) : gg_P Γ K Q cs sl pc L [.int x] μ := by
  intro p e s m args below meth c Z H locs ls hC hR hW hS hl hz
  obtain ⟨hx, hb, hr, hml, hown, hts, hin, hE⟩ := id hC
  exact W.widen hc.1 hc.2 (hR pc ls (some (.int x)) H locs μ (Or.inr (Or.inl ⟨x, rfl, Or.inr ⟨hr9, hx9⟩, hd⟩)) hW hS hq)
theorem gg_vret (hd : decode K.2.1 pc = .ok (.return_, 1)) (hr9 : K.2.2.2.1 = none) (hc : cs ≤ (mt_rm K).cells ∧ sl ≤ (mt_rm K).slots) (hq : Q none μ) : gg_P Γ K Q cs sl pc L [] μ := by
  intro p e s m args below meth c Z H locs ls hC hR hW hS hl hz
  obtain ⟨hx, hb, hr, hml, hown, hts, hin, hE⟩ := id hC
  exact W.widen hc.1 hc.2 (hR pc ls none H locs μ (Or.inl ⟨rfl, hr9, hd⟩) hW hS hq)
theorem gg_aret {r : Option Nat} {n : String} (hd : decode K.2.1 pc = .ok (.areturn, 1)) (hr9 : K.2.2.2.1 = some (.object n)) (hc : cs ≤ (mt_rm K).cells ∧ sl ≤ (mt_rm K).slots) (hq : Q (some (va_rf r)) μ) : gg_P Γ K Q cs sl pc L [va_rf r] μ := by
  intro p e s m args below meth c Z H locs ls hC hR hW hS hl hz
  obtain ⟨hx, hb, hr, hml, hown, hts, hin, hE⟩ := id hC
  exact W.widen hc.1 hc.2 (hR pc ls (some (va_rf r)) H locs μ (Or.inr (Or.inr ⟨r, rfl, ⟨n, hr9⟩, hd⟩)) hW hS hq)

def ce_V (K' : mt_K) (n : Nat) : Prop := Cond.instanceMethod K'.1 ∈ wd_all ∧ Cond.selects K'.1.cls K'.1 K'.1 ∈ wd_all ∧ Cond.initialized K'.1.cls ∈ wd_all ∧ Cond.code K'.1 K'.2.1 K'.2.2.1 K'.2.2.2.1 ∈ wd_all ∧ K'.1.cls ≠ "java/lang/invoke/MethodHandle" ∧ K'.1.cls ≠ "java/lang/invoke/VarHandle" ∧ (parseMethodDescriptor K'.1.desc).map (fun d => d.parameters.length) = some n
def ce_S (K' : mt_K) (n : Nat) : Prop := Cond.static K'.1 ∈ wd_all ∧ Cond.initialized K'.1.cls ∈ wd_all ∧ Cond.code K'.1 K'.2.1 K'.2.2.1 K'.2.2.2.1 ∈ wd_all ∧ K'.1.cls ≠ "java/lang/invoke/MethodHandle" ∧ K'.1.cls ≠ "java/lang/invoke/VarHandle" ∧ (parseMethodDescriptor K'.1.desc).map (fun d => d.parameters.length) = some n
def ce_I (K' : mt_K) (n : Nat) : Prop := K'.1.name = "<init>" ∧ K'.2.2.2.1 = none ∧ Cond.instanceMethod K'.1 ∈ wd_all ∧ Cond.initialized K'.1.cls ∈ wd_all ∧ Cond.code K'.1 K'.2.1 K'.2.2.1 K'.2.2.2.1 ∈ wd_all ∧ K'.1.cls ≠ "java/lang/invoke/MethodHandle" ∧ K'.1.cls ≠ "java/lang/invoke/VarHandle" ∧ (parseMethodDescriptor K'.1.desc).map (fun d => d.parameters.length) = some n
def rm_le (K K' : mt_K) : Prop := (mt_rm K').frames + 1 ≤ (mt_rm K).frames ∧ 8 + (K'.2.2.1 + 11) + (mt_rm K').locals ≤ (mt_rm K).locals
def cr_le (K K' : mt_K) (cs sl : Nat) : Prop := cs + (mt_rm K').cells ≤ (mt_rm K).cells ∧ sl + (mt_rm K').slots ≤ (mt_rm K).slots
theorem mt_blind {Γ : cx_T} {av : List Value} {μ : mm_T} : FrameBlind (va_Pc av (fun U => wm_P Γ μ U U.heap ∧ ex_P U)) := fun a U g mk q => ⟨q.1, wm_moved (u := U) (U := U.calling g mk a) (Vm.Alike.refl U.vm) q.2.1, va_AO.moved (u := U) (U := U.calling g mk a) (Vm.Alike.refl U.vm) q.2.2.1, va_Nw.same (u := U) (U := U.calling g mk a) rfl rfl q.2.2.2⟩
/-- behind any call: what its contract says -/
theorem gg_back {p : Program} {e : Env} {s : State} {m : MethodId} {args : Array Value} {below : List Frame} {meth : Method} {c : Code} {Z : State → Prop} {H : Heap} {locs : List Loc} {ls : Array Slot} {K' : mt_K} {rest : List Value} {Q' : Option Value → mm_T → Prop}
    (hC : cx_P K p s m args meth c) (hR : rh_P Γ K Q p e s m args below meth c Z) (hS : va_S (fun q => cx_lo Γ ≤ q) s.heap H locs) (hl : lc_P ls K.2.2.1 L) (hz : cx_lo Γ ≤ s.heap.size)
    (hr : va_Run p Γ.1 e (mt_rm K) s m args below meth c H locs cs sl (mt_rm K').cells (mt_rm K').slots (F0 m pc ls st) rest (fun st o t => (∃ (v : Option Value) (μ' : mm_T), o = .returned v ∧ Q' v μ' ∧ wm_P Γ μ' t t.heap) ∧ va_F (fun q => cx_lo Γ ≤ q) st t) (fun q => cx_lo Γ ≤ q))
    (kk : ∀ (v : Option Value) (μ' : mm_T), Q' v μ' → gg_P Γ K Q (cs + (mt_rm K').cells) (sl + (mt_rm K').slots) (pc + 3) L (v.toList ++ rest) μ') : W p Γ.1 e (mt_rm K) s m args below meth c H locs cs sl Z (F0 m pc ls st) := by
  intro T hT X
  obtain ⟨v, st₀, t, T', L9, h0, X', hL, e1, e2, ⟨⟨v', μ', hv, hq, hwm⟩, hz9, hk9⟩, stp⟩ := hr T hT X
  cases hv
  rw [h0] at hz9 hk9
  have hal : s.vm.Alike t.vm := by rw [← e2]; exact X'.warmed.alike
  have hW' : wm_P Γ μ' s T'.heap := by rw [e1]; exact wm_moved hal.symm hwm
  have hS' : va_S (fun q => cx_lo Γ ≤ q) s.heap T'.heap (locs ++ L9) := ⟨Nat.le_trans hS.1 (by rw [e1]; exact hz9), fun q h1 h2 => by rw [e1, hk9 q (Nat.lt_of_lt_of_le h1 hS.1) h2]; exact hS.2.1 q h1 h2, fun q hq => by
      rcases List.mem_append.mp hq with h | h
      · exact hS.2.2 q h
      · exact hL q h⟩
  obtain ⟨t2, a1, b1⟩ := kk v μ' hq p e s m args below meth c Z T'.heap (locs ++ L9) ls hC hR hW' hS' hl hz T' rfl X'
  exact ⟨t2, stp t2 a1, b1⟩
theorem gg_callV {K' : mt_K} {idx b ci : Nat} {fl : List (Option (Option Nat))} {As rest : List Value} {Q' : Option Value → mm_T → Prop} (hM : mt_P Γ K' (.ref b :: As) μ Q') (hd : decode K.2.1 pc = .ok (.invokevirtual idx, 3) ∧ pc + 3 = nx) (hml9 : Cond.methodLink K.1.cls idx K'.1 ∈ wd_all) (hce : ce_V K' As.length) (hrm : rm_le K K') (hs : μ.1.2 b = .inr (.inr (ci, fl))) (hci : (vwCl[ci]?).map (fun r => r.1) = some K'.1.cls) (hst : st = As.reverse ++ .ref b :: rest) (hrs : (rest.map fun v => v.category).sum ≤ 8) (hcs : cr_le K K' cs sl) (kk : ∀ (v : Option Value) (μ' : mm_T), Q' v μ' → gg_P Γ K Q (cs + (mt_rm K').cells) (sl + (mt_rm K').slots) nx L (v.toList ++ rest) μ') : gg_P Γ K Q cs sl pc L st μ := by
  intro p e s m args below meth c Z H locs ls hC hR hW hS hl hz
  obtain ⟨hx, hb, hr, hml, hown, hts, hin, hE⟩ := id hC
  obtain ⟨hd, rfl⟩ := hd
  obtain ⟨c1, c2, c3, c4, c5, c6, c7⟩ := hce
  have hGI : GoodIn wd_all (wsV K.1.cls idx K'.1.cls K'.1 (wd_K K')) := by
    intro w hw
    rcases List.mem_append.mp hw with hw | hw
    · have hw' : w ∈ wd_all := by
        simp only [List.mem_cons, List.not_mem_nil, or_false] at hw
        rcases hw with rfl | rfl | rfl | rfl <;> assumption
      exact ⟨hw', wd_goodI hw'⟩
    · exact wd_good c4 w hw
  have cw := cwV (R := mt_rm K) (ws' := wd_all) As.length hts hGI rfl rfl rfl ⟨rfl, c5, c6, c7⟩ hrm
  have hWb := hW.2.2.2.2.2 b
  rw [hs] at hWb
  obtain ⟨⟨r, hr9, cell, q1, q2, q3, -⟩, -⟩ := hWb
  have hcls : r.1 = K'.1.cls := by rw [hr9] at hci; exact Option.some.inj hci
  refine gg_back hC hR hS hl hz (va_runV ⟨hx, hb, hml, hown, hts⟩ hM cw ⟨mt_blind, ⟨cell, q1, by rw [q3]; rfl, by rw [q2, ← hcls]; exact (hW.1.1 ci r hr9).2.1⟩, fun U hU hWm => ⟨rfl, by show wm_P Γ μ U U.heap; rw [hU]; exact wm_moved hWm.alike hW, ex_warm hWm hE⟩⟩ rfl rfl hl.1 hst (lv_room hrs) hd hcs) kk
theorem gg_callS {K' : mt_K} {idx : Nat} {As rest : List Value} {Q' : Option Value → mm_T → Prop} (hM : mt_P Γ K' As μ Q') (hd : decode K.2.1 pc = .ok (.invokestatic idx, 3) ∧ pc + 3 = nx) (hml9 : Cond.methodLink K.1.cls idx K'.1 ∈ wd_all) (hce : ce_S K' As.length) (hrm : rm_le K K') (hst : st = As.reverse ++ rest) (hrs : (rest.map fun v => v.category).sum ≤ 8) (hcs : cr_le K K' cs sl) (kk : ∀ (v : Option Value) (μ' : mm_T), Q' v μ' → gg_P Γ K Q (cs + (mt_rm K').cells) (sl + (mt_rm K').slots) nx L (v.toList ++ rest) μ') : gg_P Γ K Q cs sl pc L st μ := by
  intro p e s m args below meth c Z H locs ls hC hR hW hS hl hz
  obtain ⟨hx, hb, hr, hml, hown, hts, hin, hE⟩ := id hC
  obtain ⟨hd, rfl⟩ := hd
  obtain ⟨c1, c3, c4, c5, c6, c7⟩ := hce
  have hGI : GoodIn wd_all (va_wsS K.1.cls idx K'.1 (wd_K K')) := by
    intro w hw
    rcases List.mem_append.mp hw with hw | hw
    · have hw' : w ∈ wd_all := by
        simp only [List.mem_cons, List.not_mem_nil, or_false] at hw
        rcases hw with rfl | rfl | rfl <;> assumption
      exact ⟨hw', wd_goodI hw'⟩
    · exact wd_good c4 w hw
  have cw := va_cwS (R := mt_rm K) (ws' := wd_all) As.length hts hGI rfl rfl rfl ⟨c5, c6, c7⟩ hrm
  refine gg_back hC hR hS hl hz (va_runS ⟨hx, hb, hml, hown, hts⟩ hM cw ⟨mt_blind, fun U hU hWm => ⟨rfl, by show wm_P Γ μ U U.heap; rw [hU]; exact wm_moved hWm.alike hW, ex_warm hWm hE⟩⟩ rfl rfl hl.1 hst (lv_room hrs) hd hcs) kk
theorem gg_callI {K' : mt_K} {idx b : Nat} {As rest : List Value} {Q' : Option Value → mm_T → Prop} (hM : mt_P Γ K' (.ref b :: As) μ Q') (hd : decode K.2.1 pc = .ok (.invokespecial idx, 3) ∧ pc + 3 = nx) (hml9 : Cond.methodLink K.1.cls idx K'.1 ∈ wd_all) (hce : ce_I K' As.length) (hrm : rm_le K K') (hst : st = As.reverse ++ .ref b :: rest) (hrs : (rest.map fun v => v.category).sum ≤ 8) (hcs : cr_le K K' cs sl) (kk : ∀ (v : Option Value) (μ' : mm_T), Q' v μ' → gg_P Γ K Q (cs + (mt_rm K').cells) (sl + (mt_rm K').slots) nx L (v.toList ++ rest) μ') : gg_P Γ K Q cs sl pc L st μ := by
  intro p e s m args below meth c Z H locs ls hC hR hW hS hl hz
  obtain ⟨hx, hb, hr, hml, hown, hts, hin, hE⟩ := id hC
  obtain ⟨hd, rfl⟩ := hd
  obtain ⟨c0, c00, c1, c3, c4, c5, c6, c7⟩ := hce
  have hM' : Met Γ.1 K'.1 (wd_K K') (mt_rm K') _ _ _ _ _ := hM
  have hwk : wd_K K' = Cond.code K'.1 K'.2.1 K'.2.2.1 none :: wd_all := by unfold wd_K; rw [c00]
  have cw := cwI (R := mt_rm K) (ws' := wd_all) (mc := (mt_rm K').cells) (ms := (mt_rm K').slots) As.length hts (wd_good c4) hwk rfl rfl (hts _ c3) (hts _ hml9) (hts _ c1) c0 ⟨c5, c6, c7⟩ hrm
  refine gg_back hC hR hS hl hz (va_runI ⟨hx, hb, hml, hown, hts⟩ hM cw ⟨mt_blind, fun U hU hWm => ⟨rfl, by show wm_P Γ μ U U.heap; rw [hU]; exact wm_moved hWm.alike hW, ex_warm hWm hE⟩⟩ rfl rfl hl.1 hst (lv_room hrs) hd hcs) kk
def nw_P (own : String) (idx ci n : Nat) (fl : List (Option (Option Nat))) : Prop := ∃ (r : vw_C) (ty : Nat → FieldType), vwCl[ci]? = some r ∧ r.2.2 = n ∧ Cond.classLink own idx r.1 ∈ wd_all ∧ Cond.instantiable r.1 r.2.2 ∈ wd_all ∧ Cond.initialized r.1 ∈ wd_all ∧ (∀ k, k < r.2.2 → parseFieldDescriptor (r.2.1 k).2.2.1 = some (ty k)) ∧ ∀ k, k < r.2.2 → defaultValue (ty k) = vp_V (fv_l (fun _ => 0) 0 fl) k
theorem gg_new {idx ci n : Nat} {fl : List (Option (Option Nat))} {τ : Nat × (Nat → sh_T)} {ν : Nat → Nat → Int32} (hd : decode K.2.1 pc = .ok (.new idx, 3) ∧ pc + 3 = nx) (hf : nw_P K.1.cls idx ci n fl) (hcs : cs + 1 ≤ (mt_rm K).cells ∧ sl + n ≤ (mt_rm K).slots) (kk : gg_P Γ K Q (cs + 1) (sl + n) nx L (.ref τ.1 :: st) ((τ.1 + 1, va_up τ.2 τ.1 (.inr (.inr (ci, fl)))), va_up ν τ.1 (fun _ => 0))) : gg_P Γ K Q cs sl pc L st (τ, ν) := by
  intro p e s m args below meth c Z H locs ls hC hR hW hS hl hz
  obtain ⟨hx, hb, hr, hml, hown, hts, hin, hE⟩ := id hC
  obtain ⟨hd, rfl⟩ := hd
  obtain ⟨r, ty, hr9, rfl, h1, h2, h3, h4, h5⟩ := hf
  have hKn := hW.1.1 ci r hr9
  have hsz : H.size = τ.1 := hW.2.2.2.1
  refine W.newcK hx hb hown (hts _ h1) (hts _ h2) (hts _ h3) rfl hd hcs.1 hcs.2 hKn.2.1 hsz fun H1 kC hkC e1 z1 o1 => ?_
  refine kk p e s m args below meth c Z H1 locs ls hC hR ?_ ⟨Nat.le_trans hS.1 (by omega), fun x g1 g2 => (o1 x (by have := hS.1; omega)).trans (hS.2.1 x g1 g2), hS.2.2⟩ hl hz
  refine wm_new hW (by omega) (fun q hq => o1 q (by omega)) ⟨⟨r, hr9, (u_born ty hts (cls_ok ci r hr9).1 hKn hkC e1 h4).to h5⟩, hW.2.2.2.2.1⟩
theorem gg_newI {v : Int32} {n : Nat} {τ : Nat × (Nat → sh_T)} {ν : Nat → Nat → Int32} (hd : decode K.2.1 pc = .ok (.newarray .int, 2) ∧ pc + 2 = nx) (hw : Cond.arrayClass .int ∈ wd_all) (hv : ¬ v < 0 ∧ v.toNatClampNeg = n ∧ n ≤ 10000) (hcs : cs + 1 ≤ (mt_rm K).cells ∧ sl + n ≤ (mt_rm K).slots) (kk : gg_P Γ K Q (cs + 1) (sl + n) nx L (.ref τ.1 :: st) ((τ.1 + 1, va_up τ.2 τ.1 (.inl (0, n))), va_up ν τ.1 (fun _ => 0))) : gg_P Γ K Q cs sl pc L (.int v :: st) (τ, ν) := by
  intro p e s m args below meth c Z H locs ls hC hR hW hS hl hz
  obtain ⟨hx, hb, hr, hml, hown, hts, hin, hE⟩ := id hC
  obtain ⟨hd, rfl⟩ := hd
  have hsz : H.size = τ.1 := hW.2.2.2.1
  refine va_newaK (atype := .int) hx hb (hts _ hw) rfl hd rfl hv.1 hv.2.1 (by have := hv.2.2; show n * 4 ≤ _; omega) hcs.1 hcs.2 hsz fun H1 cA e1 z1 o1 hAr hNm => ?_
  have hRA : s.vm.findClass ("[" ++ FieldType.int.toString) = some (cx_cI Γ) := (hW.1.2 0 (cx_cI Γ, .int) rfl).2
  cases Option.some.inj (hNm.symm.trans hRA)
  refine kk p e s m args below meth c Z H1 locs ls hC hR ?_ ⟨Nat.le_trans hS.1 (by omega), fun x g1 g2 => (o1 x (by have := hS.1; omega)).trans (hS.2.1 x g1 g2), hS.2.2⟩ hl hz
  exact wm_new hW (by omega) (fun q hq => o1 q (by omega)) ⟨e1, hW.2.2.2.2.1⟩
theorem gg_newB {v : Int32} {n : Nat} {τ : Nat × (Nat → sh_T)} {ν : Nat → Nat → Int32} (hd : decode K.2.1 pc = .ok (.newarray .byte, 2) ∧ pc + 2 = nx) (hw : Cond.arrayClass .byte ∈ wd_all) (hv : ¬ v < 0 ∧ v.toNatClampNeg = n ∧ n ≤ 10000) (hcs : cs + 1 ≤ (mt_rm K).cells ∧ sl + n ≤ (mt_rm K).slots) (kk : gg_P Γ K Q (cs + 1) (sl + n) nx L (.ref τ.1 :: st) ((τ.1 + 1, va_up τ.2 τ.1 (.inl (1, n))), va_up ν τ.1 (fun _ => 0))) : gg_P Γ K Q cs sl pc L (.int v :: st) (τ, ν) := by
  intro p e s m args below meth c Z H locs ls hC hR hW hS hl hz
  obtain ⟨hx, hb, hr, hml, hown, hts, hin, hE⟩ := id hC
  obtain ⟨hd, rfl⟩ := hd
  have hsz : H.size = τ.1 := hW.2.2.2.1
  refine va_newaK (atype := .byte) hx hb (hts _ hw) rfl hd rfl hv.1 hv.2.1 (by have := hv.2.2; show n * 1 ≤ _; omega) hcs.1 hcs.2 hsz fun H1 cA e1 z1 o1 hAr hNm => ?_
  have hRA : s.vm.findClass ("[" ++ FieldType.byte.toString) = some (cx_cB Γ) := (hW.1.2 1 (cx_cB Γ, .byte) rfl).2
  cases Option.some.inj (hNm.symm.trans hRA)
  refine kk p e s m args below meth c Z H1 locs ls hC hR ?_ ⟨Nat.le_trans hS.1 (by omega), fun x g1 g2 => (o1 x (by have := hS.1; omega)).trans (hS.2.1 x g1 g2), hS.2.2⟩ hl hz
  exact wm_new hW (by omega) (fun q hq => o1 q (by omega)) ⟨e1, hW.2.2.2.2.1⟩
/-- ints are copied from array to array -/
theorem gg_copy {idx a0 a n0 n1 : Nat} {sp dp n : Int32} {τ : Nat × (Nat → sh_T)} {ν : Nat → Nat → Int32} (hd : decode K.2.1 pc = .ok (.invokestatic idx, 3) ∧ pc + 3 = nx) (hw : Cond.methodLink K.1.cls idx arraycopyName ∈ wd_all ∧ Cond.native arraycopyName ∈ wd_all ∧ Cond.static arraycopyName ∈ wd_all ∧ Cond.initialized "java/lang/System" ∈ wd_all) (hs0 : τ.2 a0 = .inl (0, n0)) (hs1 : τ.2 a = .inl (0, n1)) (h1 : ¬ sp < 0) (h2 : ¬ dp < 0) (h3 : ¬ n < 0) (h4 : sp.toNatClampNeg + n.toNatClampNeg ≤ n0) (h5 : dp.toNatClampNeg + n.toNatClampNeg ≤ n1)
    (hrm : 1 ≤ (mt_rm K).frames ∧ (st.map fun v => v.category).sum + 18 ≤ (mt_rm K).locals) (kk : gg_P Γ K Q cs sl nx L st (τ, va_up ν a (va_cpy (ν a0) (ν a) sp.toNatClampNeg dp.toNatClampNeg n.toNatClampNeg))) : gg_P Γ K Q cs sl pc L (.int n :: .int dp :: .ref a :: .int sp :: .ref a0 :: st) (τ, ν) := by
  intro p e s m args below meth c Z H locs ls hC hR hW hS hl hz
  obtain ⟨hx, hb, hr, hml, hown, hts, hin, hE⟩ := id hC
  obtain ⟨hd, rfl⟩ := hd
  have nn : ∀ z : Int32, ¬ z < 0 → z.toInt = (z.toNatClampNeg : Int) := by
    intro z hz
    have hz0 : (0 : Int) ≤ z.toInt := by
      have := Int32.not_lt.mp hz
      simpa using Int32.le_iff_toInt_le.mp this
    show z.toInt = ((z.toInt.toNat : Nat) : Int)
    omega
  intro T hT X
  have w0 := hW.2.2.2.2.2 a0
  have s0' : ((τ, ν) : mm_T).1.2 a0 = .inl (0, n0) := hs0
  rw [s0'] at w0
  have w1 := hW.2.2.2.2.2 a
  have s1' : ((τ, ν) : mm_T).1.2 a = .inl (0, n1) := hs1
  rw [s1'] at w1
  have hA := (hW.1.2 0 (cx_cI Γ, .int) rfl).1
  obtain ⟨-, k0, hk0, cm0, hkk0⟩ := hA n0 (fun j => .int (ν a0 j))
  obtain ⟨-, k1, hk1, cm1, hkk1⟩ := hA n1 (fun j => .int (ν a j))
  have hc0 : H[a0]? = some (arrV (cx_cI Γ) n0 (fun j => .int (ν a0 j))) := w0.1
  have hc1 : H[a]? = some (arrV (cx_cI Γ) n1 (fun j => .int (ν a j))) := w1.1
  obtain ⟨vm', X', step⟩ := X.arraycopy hx hown (hts _ hw.1) (hts _ hw.2.1) (hts _ hw.2.2.1) (hts _ hw.2.2.2) (src := a0) (dst := a) (cs := arrV (cx_cI Γ) n0 (fun j => .int (ν a0 j))) (cd := arrV (cx_cI Γ) n1 (fun j => .int (ν a j))) (srcPos := sp) (destPos := dp) (n := n) (by rw [hT]; exact hc0) (by rw [hT]; exact hc1)
    (fun _ h => by cases h) (fun _ h => by cases h) (fun h => by cases h) (fun h => by cases h) hk0 hk1 hkk0 hkk1 (by simp [refKind]) h1 h2 h3
    (by rw [nn sp h1, nn n h3, arrV_size]; omega)
    (by rw [nn dp h2, nn n h3, arrV_size]; omega)
    (fun vm₁ _ i hi => by
      have e : (arrV (cx_cI Γ) n0 (fun j => .int (ν a0 j))).slots.getD (sp.toNatClampNeg + i) .null = .int (ν a0 (sp.toNatClampNeg + i)) := by
        rw [Array.getD_eq_getD_getElem?, arrV_read _ _ (by omega)]
        rfl
      rw [e]
      exact ⟨rfl, trivial⟩)
    (g := F0 m pc ls (.int n :: .int dp :: .ref a :: .int sp :: .ref a0 :: st)) rfl (by show ls.size = _; rw [hl.1, hml]) (rest := st) rfl (by rw [hb]; exact hd) hrm.1 (by have := hrm.2; have e18 : nativeFrameWords "java/lang/System" "arraycopy" 5 = 7 := by decide +kernel
                                                                                                                                                                            show 2 * 0 + _ + _ ≤ _; omega)
  have e1 : copied (arrV (cx_cI Γ) n0 (fun j => .int (ν a0 j))) (arrV (cx_cI Γ) n1 (fun j => .int (ν a j))) sp dp n = arrV (cx_cI Γ) n1 (fun j => .int (va_cpy (ν a0) (ν a) sp.toNatClampNeg dp.toNatClampNeg n.toNatClampNeg j)) := va_copied (fun z => .int z) (cx_cI Γ) (cx_cI Γ) (ν a0) (ν a) h4
  rw [e1] at X' step
  have hl9 : a < H.size := (Array.getElem?_eq_some_iff.mp hc1).1
  have oq : ∀ q : Nat, q ≠ a → (H.setIfInBounds a (arrV (cx_cI Γ) n1 (fun j => .int (va_cpy (ν a0) (ν a) sp.toNatClampNeg dp.toNatClampNeg n.toNatClampNeg j))))[q]? = H[q]? := fun q hq => by simp [Array.getElem?_setIfInBounds, Ne.symm hq]
  have hheap : ((T.setVm vm').setCell a (arrV (cx_cI Γ) n1 (fun j => .int (va_cpy (ν a0) (ν a) sp.toNatClampNeg dp.toNatClampNeg n.toNatClampNeg j)))).heap = H.setIfInBounds a (arrV (cx_cI Γ) n1 (fun j => .int (va_cpy (ν a0) (ν a) sp.toNatClampNeg dp.toNatClampNeg n.toNatClampNeg j))) := by rw [← hT]; rfl
  have k9 := fun (L9 : List Loc) (hL9 : ∀ q ∈ L9, q.base = a) => kk p e s m args below meth c Z (H.setIfInBounds a (arrV (cx_cI Γ) n1 (fun j => .int (va_cpy (ν a0) (ν a) sp.toNatClampNeg dp.toNatClampNeg n.toNatClampNeg j)))) (locs ++ L9) ls hC hR (wm_put hW (by simp) oq w1.2 (fun b hb => by rw [va_up_ne _ _ hb]) (by rw [hs1, va_up_self]; exact ⟨by simp [Array.getElem?_setIfInBounds, hl9], w1.2⟩)) ⟨by simp; exact hS.1, fun q g1 g2 => by
      rw [oq q (fun e => g2 (by rw [e]; exact w1.2))]
      exact hS.2.1 q g1 g2, fun q hq => by
      rcases List.mem_append.mp hq with h | h
      · exact hS.2.2 q h
      · rw [hL9 q h]
        exact w1.2⟩ hl hz
  have h10 := fun hL9 => k9 _ hL9 _ hheap X'
  obtain ⟨t, a1, b1⟩ := h10 (fun q h => by
    obtain ⟨z, -, hz⟩ := List.mem_map.mp h
    rw [← hz])
  exact ⟨t, step t a1, b1⟩
theorem gg_callN {K' : mt_K} {As rest : List Value} {Q' : Option Value → mm_T → Prop} (hM : mt_P Γ K' As μ Q') (hd : decode K.2.1 pc = .ok (.invokestatic 125, 3) ∧ pc + 3 = nx) (hKc : K.1.cls = "FeedAxis$Axis") (hy9 : K'.1 = ⟨"FeedAxis", "isPlace", "(I)Z"⟩) (hce : ce_S K' As.length) (hrm : rm_le K K') (hst : st = As.reverse ++ rest) (hrs : (rest.map fun v => v.category).sum ≤ 8) (hcs : cr_le K K' cs sl) (kk : ∀ (v : Option Value) (μ' : mm_T), Q' v μ' → gg_P Γ K Q (cs + (mt_rm K').cells) (sl + (mt_rm K').slots) nx L (v.toList ++ rest) μ') : gg_P Γ K Q cs sl pc L st μ := by
  intro p e s m args below meth c Z H locs ls hC hR hW hS hl hz
  obtain ⟨hx, hb, hr, hml, hown, hts, hin, hE⟩ := id hC
  obtain ⟨hd, rfl⟩ := hd
  obtain ⟨c1, c3, c4, c5, c6, c7⟩ := hce
  have hn : va_Nw (.methodLinkNest K.1.cls 125 K'.1 "FeedAxis") s := by rw [hKc, hy9]; exact hE.2
  have cw := va_cnB (R := mt_rm K) (ws' := wd_all) As.length hts (wd_good c4) rfl rfl rfl hn (hts _ c3) ⟨c5, c6, c7⟩ hrm
  refine gg_back hC hR hS hl hz (va_runSN ⟨hx, hb, hml, hown, hts⟩ hM ⟨cw, hts _ c1, trivial⟩ ⟨mt_blind, fun U hU hWm => ⟨rfl, by show wm_P Γ μ U U.heap; rw [hU]; exact wm_moved hWm.alike hW, ex_warm hWm hE⟩⟩ rfl rfl hl.1 hst (lv_room hrs) hd hcs) kk
theorem gg_anew {idx : Nat} {v : Int32} {n : Nat} {τ : Nat × (Nat → sh_T)} {ν : Nat → Nat → Int32} (hd : decode K.2.1 pc = .ok (.anewarray idx, 3) ∧ pc + 3 = nx) (hw : Cond.classLink K.1.cls idx "FeedAxis$Axis" ∈ wd_all) (hv : ¬ v < 0 ∧ v.toNatClampNeg = n ∧ n ≤ 10000) (hcs : cs + 1 ≤ (mt_rm K).cells ∧ sl + n ≤ (mt_rm K).slots) (kk : gg_P Γ K Q (cs + 1) (sl + n) nx L (.ref τ.1 :: st) ((τ.1 + 1, va_up τ.2 τ.1 (.inr (.inl (n, fun _ => none)))), va_up ν τ.1 (fun _ => 0))) : gg_P Γ K Q cs sl pc L (.int v :: st) (τ, ν) := by
  intro p e s m args below meth c Z H locs ls hC hR hW hS hl hz
  obtain ⟨hx, hb, hr, hml, hown, hts, hin, hE⟩ := id hC
  obtain ⟨hd, rfl⟩ := hd
  obtain ⟨hv1, rfl, hv3⟩ := hv
  have hsz : H.size = τ.1 := hW.2.2.2.1
  refine W.anew hx hb hown (hts _ hw) (va_AO.use hE.1) rfl hd rfl hv1 (by omega) hcs.1 hcs.2 fun cA kA comp f1 f2 f3 f4 => ?_
  obtain ⟨kA', comp', k1, k2, k3, k4⟩ := (hW.1.2 2 (cx_cA Γ, .object "FeedAxis$Axis") rfl).2
  cases Option.some.inj (f1.symm.trans k4)
  generalize hH1 : H.push ({ cls := cx_cA Γ, slots := Array.replicate v.toNatClampNeg .null, vm := .none } : Cell) = H1
  have z1 : H1.size = H.size + 1 := by rw [← hH1, Array.size_push]
  have e1 : H1[H.size]? = some (arrV (cx_cA Γ) v.toNatClampNeg (fun _ => .null)) := by rw [← hH1, Array.getElem?_push_size, ← arrV_new]
  have o1 : ∀ q : Nat, q < H.size → H1[q]? = H[q]? := fun q hq => by rw [← hH1, Array.getElem?_push, if_neg (Nat.ne_of_lt hq)]
  have kk' := kk p e s m args below meth c Z H1 locs ls hC hR (wm_new hW z1 o1 ⟨by rw [← hsz]; exact e1, hW.2.2.2.2.1⟩) ⟨Nat.le_trans hS.1 (by omega), fun x g1 g2 => (o1 x (by have := hS.1; omega)).trans (hS.2.1 x g1 g2), hS.2.2⟩ hl hz
  rw [← hsz] at kk'
  exact kk'
/-- a call of a contract that says one answer and one world, and makes nothing -/
theorem gg_okV {K' : mt_K} {idx b ci : Nat} {fl : List (Option (Option Nat))} {As rest : List Value} {τ : Nat × (Nat → sh_T)} {ν ν' : Nat → Nat → Int32} {r : Value} (hM : mt_P Γ K' (.ref b :: As) (τ, ν) (fun v μ' => v = some r ∧ μ' = (τ, ν'))) (hd : decode K.2.1 pc = .ok (.invokevirtual idx, 3) ∧ pc + 3 = nx) (hml9 : Cond.methodLink K.1.cls idx K'.1 ∈ wd_all) (hce : ce_V K' As.length) (hrm : rm_le K K') (hs : τ.2 b = .inr (.inr (ci, fl))) (hci : (vwCl[ci]?).map (fun r => r.1) = some K'.1.cls) (hst : st = As.reverse ++ .ref b :: rest) (hrs : (rest.map fun v => v.category).sum ≤ 8) (h0 : (mt_rm K').cells = 0 ∧ (mt_rm K').slots = 0) (hcs : cs ≤ (mt_rm K).cells ∧ sl ≤ (mt_rm K).slots) (kk : gg_P Γ K Q cs sl nx L (r :: rest) (τ, ν')) : gg_P Γ K Q cs sl pc L st (τ, ν) := by
  refine gg_callV hM hd hml9 hce hrm hs hci hst hrs ⟨by rw [h0.1]; exact hcs.1, by rw [h0.2]; exact hcs.2⟩ ?_
  rintro v μ' ⟨rfl, rfl⟩
  rw [h0.1, h0.2]
  exact kk
theorem gg_okVv {K' : mt_K} {idx b ci : Nat} {fl : List (Option (Option Nat))} {As rest : List Value} {τ : Nat × (Nat → sh_T)} {ν ν' : Nat → Nat → Int32} (hM : mt_P Γ K' (.ref b :: As) (τ, ν) (fun v μ' => v = none ∧ μ' = (τ, ν'))) (hd : decode K.2.1 pc = .ok (.invokevirtual idx, 3) ∧ pc + 3 = nx) (hml9 : Cond.methodLink K.1.cls idx K'.1 ∈ wd_all) (hce : ce_V K' As.length) (hrm : rm_le K K') (hs : τ.2 b = .inr (.inr (ci, fl))) (hci : (vwCl[ci]?).map (fun r => r.1) = some K'.1.cls) (hst : st = As.reverse ++ .ref b :: rest) (hrs : (rest.map fun v => v.category).sum ≤ 8) (h0 : (mt_rm K').cells = 0 ∧ (mt_rm K').slots = 0) (hcs : cs ≤ (mt_rm K).cells ∧ sl ≤ (mt_rm K).slots) (kk : gg_P Γ K Q cs sl nx L rest (τ, ν')) : gg_P Γ K Q cs sl pc L st (τ, ν) := by
  refine gg_callV hM hd hml9 hce hrm hs hci hst hrs ⟨by rw [h0.1]; exact hcs.1, by rw [h0.2]; exact hcs.2⟩ ?_
  rintro v μ' ⟨rfl, rfl⟩
  rw [h0.1, h0.2]
  exact kk
theorem gg_okS {K' : mt_K} {idx : Nat} {As rest : List Value} {τ : Nat × (Nat → sh_T)} {ν ν' : Nat → Nat → Int32} {r : Value} (hM : mt_P Γ K' As (τ, ν) (fun v μ' => v = some r ∧ μ' = (τ, ν'))) (hd : decode K.2.1 pc = .ok (.invokestatic idx, 3) ∧ pc + 3 = nx) (hml9 : Cond.methodLink K.1.cls idx K'.1 ∈ wd_all) (hce : ce_S K' As.length) (hrm : rm_le K K') (hst : st = As.reverse ++ rest) (hrs : (rest.map fun v => v.category).sum ≤ 8) (h0 : (mt_rm K').cells = 0 ∧ (mt_rm K').slots = 0) (hcs : cs ≤ (mt_rm K).cells ∧ sl ≤ (mt_rm K).slots) (kk : gg_P Γ K Q cs sl nx L (r :: rest) (τ, ν')) : gg_P Γ K Q cs sl pc L st (τ, ν) := by
  refine gg_callS hM hd hml9 hce hrm hst hrs ⟨by rw [h0.1]; exact hcs.1, by rw [h0.2]; exact hcs.2⟩ ?_
  rintro v μ' ⟨rfl, rfl⟩
  rw [h0.1, h0.2]
  exact kk
theorem gg_okSv {K' : mt_K} {idx : Nat} {As rest : List Value} {τ : Nat × (Nat → sh_T)} {ν ν' : Nat → Nat → Int32} (hM : mt_P Γ K' As (τ, ν) (fun v μ' => v = none ∧ μ' = (τ, ν'))) (hd : decode K.2.1 pc = .ok (.invokestatic idx, 3) ∧ pc + 3 = nx) (hml9 : Cond.methodLink K.1.cls idx K'.1 ∈ wd_all) (hce : ce_S K' As.length) (hrm : rm_le K K') (hst : st = As.reverse ++ rest) (hrs : (rest.map fun v => v.category).sum ≤ 8) (h0 : (mt_rm K').cells = 0 ∧ (mt_rm K').slots = 0) (hcs : cs ≤ (mt_rm K).cells ∧ sl ≤ (mt_rm K).slots) (kk : gg_P Γ K Q cs sl nx L rest (τ, ν')) : gg_P Γ K Q cs sl pc L st (τ, ν) := by
  refine gg_callS hM hd hml9 hce hrm hst hrs ⟨by rw [h0.1]; exact hcs.1, by rw [h0.2]; exact hcs.2⟩ ?_
  rintro v μ' ⟨rfl, rfl⟩
  rw [h0.1, h0.2]
  exact kk
theorem gg_okN {K' : mt_K} {As rest : List Value} {τ : Nat × (Nat → sh_T)} {ν ν' : Nat → Nat → Int32} {r : Value} (hM : mt_P Γ K' As (τ, ν) (fun v μ' => v = some r ∧ μ' = (τ, ν'))) (hd : decode K.2.1 pc = .ok (.invokestatic 125, 3) ∧ pc + 3 = nx) (hKc : K.1.cls = "FeedAxis$Axis") (hy9 : K'.1 = ⟨"FeedAxis", "isPlace", "(I)Z"⟩) (hce : ce_S K' As.length) (hrm : rm_le K K') (hst : st = As.reverse ++ rest) (hrs : (rest.map fun v => v.category).sum ≤ 8) (h0 : (mt_rm K').cells = 0 ∧ (mt_rm K').slots = 0) (hcs : cs ≤ (mt_rm K).cells ∧ sl ≤ (mt_rm K).slots) (kk : gg_P Γ K Q cs sl nx L (r :: rest) (τ, ν')) : gg_P Γ K Q cs sl pc L st (τ, ν) := by
  refine gg_callN hM hd hKc hy9 hce hrm hst hrs ⟨by rw [h0.1]; exact hcs.1, by rw [h0.2]; exact hcs.2⟩ ?_
  rintro v μ' ⟨rfl, rfl⟩
  rw [h0.1, h0.2]
  exact kk
/-- a post that says one answer and one world -/
def ok_P (r : Option Value) (μ : mm_T) : Option Value → mm_T → Prop := fun v μ' => v = r ∧ μ' = μ
end RULES
end
section
/-! methods, links, decode rows (by program: wip/gen/g03.py) -/
def mk_F_init : mt_K := (⟨"FeedAxis", "<init>", "()V"⟩, prog_1_method_1_code, 2, (none : Option FieldType), ({ frames := 4, cells := 125, slots := 1025, locals := 73 } : Room))
def mk_A_init : mt_K := (⟨"FeedAxis$Axis", "<init>", "()V"⟩, prog_2_method_1_code, 1, (none : Option FieldType), ({ frames := 2, cells := 11, slots := 77, locals := 32 } : Room))
def mk_P_init : mt_K := (⟨"FeedAxis$Points", "<init>", "()V"⟩, prog_4_method_1_code, 1, (none : Option FieldType), ({ frames := 1, cells := 2, slots := 20, locals := 12 } : Room))
def mk_C_init : mt_K := (⟨"FeedAxis$Commands", "<init>", "()V"⟩, prog_3_method_1_code, 1, (none : Option FieldType), ({ frames := 1, cells := 2, slots := 16, locals := 12 } : Room))
def mk_S_init : mt_K := (⟨"FeedAxis$Saved", "<init>", "()V"⟩, prog_6_method_1_code, 2, (none : Option FieldType), ({ frames := 3, cells := 73, slots := 552, locals := 52 } : Room))
def mk_T_init : mt_K := (⟨"FeedAxis$TableText", "<init>", "()V"⟩, prog_7_method_1_code, 1, (none : Option FieldType), ({ frames := 1, cells := 1, slots := 100, locals := 12 } : Room))
def mk_F_setNumber : mt_K := (⟨"FeedAxis", "setNumber", "(II)I"⟩, prog_1_method_2_code, 4, (some .int : Option FieldType), ({ frames := 5, cells := 0, slots := 0, locals := 106 } : Room))
def mk_A_isNumberInRange : mt_K := (⟨"FeedAxis$Axis", "isNumberInRange", "(II)Z"⟩, prog_2_method_3_code, 2, (some .boolean : Option FieldType), ({ frames := 1, cells := 0, slots := 0, locals := 21 } : Room))
def mk_R_at : mt_K := (⟨"FeedAxis$Rows", "at", "([II)I"⟩, prog_5_method_2_code, 2, (some .int : Option FieldType), ({ frames := 0, cells := 0, slots := 0, locals := 0 } : Room))
def mk_J_bitCount : mt_K := (⟨"java/lang/Integer", "bitCount", "(I)I"⟩, prog_10_method_49_code, 1, (some .int : Option FieldType), ({ frames := 0, cells := 0, slots := 0, locals := 0 } : Room))
def mk_A_number : mt_K := (⟨"FeedAxis$Axis", "number", "(I)I"⟩, prog_2_method_4_code, 2, (some .int : Option FieldType), ({ frames := 0, cells := 0, slots := 0, locals := 0 } : Room))
def mk_S_push : mt_K := (⟨"FeedAxis$Saved", "push", "(LFeedAxis$Axis;)V"⟩, prog_6_method_2_code, 3, (none : Option FieldType), ({ frames := 4, cells := 0, slots := 0, locals := 84 } : Room))
def mk_S_rowAt : mt_K := (⟨"FeedAxis$Saved", "rowAt", "(I)LFeedAxis$Axis;"⟩, prog_6_method_4_code, 2, (some (.object "FeedAxis$Axis") : Option FieldType), ({ frames := 0, cells := 0, slots := 0, locals := 0 } : Room))
def mk_A_copyFrom : mt_K := (⟨"FeedAxis$Axis", "copyFrom", "(LFeedAxis$Axis;)V"⟩, prog_2_method_2_code, 2, (none : Option FieldType), ({ frames := 3, cells := 0, slots := 0, locals := 63 } : Room))
def mk_R_copy : mt_K := (⟨"FeedAxis$Rows", "copy", "([I[I)V"⟩, prog_5_method_4_code, 2, (none : Option FieldType), ({ frames := 1, cells := 0, slots := 0, locals := 21 } : Room))
def mk_J_min : mt_K := (⟨"java/lang/Math", "min", "(II)I"⟩, prog_11_method_69_code, 2, (some .int : Option FieldType), ({ frames := 0, cells := 0, slots := 0, locals := 0 } : Room))
def mk_P_copyFrom : mt_K := (⟨"FeedAxis$Points", "copyFrom", "(LFeedAxis$Points;)V"⟩, prog_4_method_2_code, 2, (none : Option FieldType), ({ frames := 2, cells := 0, slots := 0, locals := 42 } : Room))
def mk_C_copyFrom : mt_K := (⟨"FeedAxis$Commands", "copyFrom", "(LFeedAxis$Commands;)V"⟩, prog_3_method_2_code, 2, (none : Option FieldType), ({ frames := 2, cells := 0, slots := 0, locals := 42 } : Room))
def mk_A_changeNumber : mt_K := (⟨"FeedAxis$Axis", "changeNumber", "(II)V"⟩, prog_2_method_5_code, 3, (none : Option FieldType), ({ frames := 1, cells := 0, slots := 0, locals := 22 } : Room))
def mk_R_put : mt_K := (⟨"FeedAxis$Rows", "put", "([III)V"⟩, prog_5_method_3_code, 3, (none : Option FieldType), ({ frames := 0, cells := 0, slots := 0, locals := 0 } : Room))
def mk_F_setLoad : mt_K := (⟨"FeedAxis", "setLoad", "(II)I"⟩, prog_1_method_3_code, 3, (some .int : Option FieldType), ({ frames := 6, cells := 0, slots := 0, locals := 131 } : Room))
def mk_F_isPlace : mt_K := (⟨"FeedAxis", "isPlace", "(I)Z"⟩, prog_1_method_28_code, 1, (some .boolean : Option FieldType), ({ frames := 0, cells := 0, slots := 0, locals := 0 } : Room))
def mk_F_setPoint : mt_K := (⟨"FeedAxis", "setPoint", "(LFeedAxis$Points;III)I"⟩, prog_1_method_29_code, 6, (some .int : Option FieldType), ({ frames := 5, cells := 0, slots := 0, locals := 106 } : Room))
def mk_P_valueAt : mt_K := (⟨"FeedAxis$Points", "valueAt", "(II)I"⟩, prog_4_method_3_code, 4, (some .int : Option FieldType), ({ frames := 2, cells := 0, slots := 0, locals := 43 } : Room))
def mk_P_lastUpTo : mt_K := (⟨"FeedAxis$Points", "lastUpTo", "(I)I"⟩, prog_4_method_12_code, 4, (some .int : Option FieldType), ({ frames := 0, cells := 0, slots := 0, locals := 0 } : Room))
def mk_P_isAt : mt_K := (⟨"FeedAxis$Points", "isAt", "(II)Z"⟩, prog_4_method_11_code, 3, (some .boolean : Option FieldType), ({ frames := 1, cells := 0, slots := 0, locals := 21 } : Room))
def mk_P_remove : mt_K := (⟨"FeedAxis$Points", "remove", "(I)V"⟩, prog_4_method_10_code, 3, (none : Option FieldType), ({ frames := 2, cells := 0, slots := 0, locals := 45 } : Room))
def mk_R_closeGap : mt_K := (⟨"FeedAxis$Rows", "closeGap", "([III)V"⟩, prog_5_method_6_code, 4, (none : Option FieldType), ({ frames := 1, cells := 0, slots := 0, locals := 22 } : Room))
def mk_P_hasRoomFor : mt_K := (⟨"FeedAxis$Points", "hasRoomFor", "(I)Z"⟩, prog_4_method_8_code, 2, (some .boolean : Option FieldType), ({ frames := 2, cells := 0, slots := 0, locals := 43 } : Room))
def mk_P_put : mt_K := (⟨"FeedAxis$Points", "put", "(II)V"⟩, prog_4_method_9_code, 4, (none : Option FieldType), ({ frames := 2, cells := 0, slots := 0, locals := 45 } : Room))
def mk_R_openGap : mt_K := (⟨"FeedAxis$Rows", "openGap", "([III)V"⟩, prog_5_method_5_code, 4, (none : Option FieldType), ({ frames := 1, cells := 0, slots := 0, locals := 22 } : Room))
def mk_F_setComb : mt_K := (⟨"FeedAxis", "setComb", "(II)I"⟩, prog_1_method_4_code, 3, (some .int : Option FieldType), ({ frames := 6, cells := 0, slots := 0, locals := 131 } : Room))
def mk_F_setFlag : mt_K := (⟨"FeedAxis", "setFlag", "(II)I"⟩, prog_1_method_5_code, 4, (some .int : Option FieldType), ({ frames := 5, cells := 0, slots := 0, locals := 106 } : Room))
def mk_A_placeFlag : mt_K := (⟨"FeedAxis$Axis", "placeFlag", "(II)V"⟩, prog_2_method_6_code, 3, (none : Option FieldType), ({ frames := 0, cells := 0, slots := 0, locals := 0 } : Room))
def mk_F_appendCharacter : mt_K := (⟨"FeedAxis", "appendCharacter", "(I)I"⟩, prog_1_method_6_code, 2, (some .int : Option FieldType), ({ frames := 2, cells := 0, slots := 0, locals := 43 } : Room))
def mk_T_append : mt_K := (⟨"FeedAxis$TableText", "append", "(I)Z"⟩, prog_7_method_2_code, 2, (some .boolean : Option FieldType), ({ frames := 1, cells := 0, slots := 0, locals := 22 } : Room))
def mk_F_clearText : mt_K := (⟨"FeedAxis", "clearText", "()I"⟩, prog_1_method_7_code, 2, (some .int : Option FieldType), ({ frames := 0, cells := 0, slots := 0, locals := 0 } : Room))
def mk_F_load : mt_K := (⟨"FeedAxis", "load", "()I"⟩, prog_1_method_8_code, 2, (some .int : Option FieldType), ({ frames := 6, cells := 0, slots := 0, locals := 141 } : Room))
def mk_T_readInto : mt_K := (⟨"FeedAxis$TableText", "readInto", "(LFeedAxis$Axis;)I"⟩, prog_7_method_3_code, 3, (some .int : Option FieldType), ({ frames := 5, cells := 0, slots := 0, locals := 119 } : Room))
def mk_T_skipSpaces : mt_K := (⟨"FeedAxis$TableText", "skipSpaces", "()V"⟩, prog_7_method_11_code, 1, (none : Option FieldType), ({ frames := 2, cells := 0, slots := 0, locals := 41 } : Room))
def mk_T_nextCharacter : mt_K := (⟨"FeedAxis$TableText", "nextCharacter", "()I"⟩, prog_7_method_12_code, 1, (some .int : Option FieldType), ({ frames := 1, cells := 0, slots := 0, locals := 21 } : Room))
def mk_T_readItem : mt_K := (⟨"FeedAxis$TableText", "readItem", "(LFeedAxis$Axis;)V"⟩, prog_7_method_4_code, 6, (none : Option FieldType), ({ frames := 4, cells := 0, slots := 0, locals := 94 } : Room))
def mk_T_readNumber : mt_K := (⟨"FeedAxis$TableText", "readNumber", "(IIZ)I"⟩, prog_7_method_8_code, 9, (some .int : Option FieldType), ({ frames := 3, cells := 0, slots := 0, locals := 63 } : Room))
def mk_T_readDigits : mt_K := (⟨"FeedAxis$TableText", "readDigits", "()I"⟩, prog_7_method_9_code, 3, (some .int : Option FieldType), ({ frames := 2, cells := 0, slots := 0, locals := 41 } : Room))
def mk_T_isDigit : mt_K := (⟨"FeedAxis$TableText", "isDigit", "(I)Z"⟩, prog_7_method_13_code, 1, (some .boolean : Option FieldType), ({ frames := 0, cells := 0, slots := 0, locals := 0 } : Room))
def mk_T_expect : mt_K := (⟨"FeedAxis$TableText", "expect", "(I)V"⟩, prog_7_method_10_code, 2, (none : Option FieldType), ({ frames := 3, cells := 0, slots := 0, locals := 61 } : Room))
def mk_T_leastSecond : mt_K := (⟨"FeedAxis$TableText", "leastSecond", "(II)I"⟩, prog_7_method_5_code, 2, (some .int : Option FieldType), ({ frames := 0, cells := 0, slots := 0, locals := 0 } : Room))
def mk_T_greatestSecond : mt_K := (⟨"FeedAxis$TableText", "greatestSecond", "(I)I"⟩, prog_7_method_6_code, 1, (some .int : Option FieldType), ({ frames := 0, cells := 0, slots := 0, locals := 0 } : Room))
def mk_T_setItem : mt_K := (⟨"FeedAxis$TableText", "setItem", "(LFeedAxis$Axis;IIII)V"⟩, prog_7_method_7_code, 7, (none : Option FieldType), ({ frames := 3, cells := 0, slots := 0, locals := 68 } : Room))
def mk_F_adoptTrial : mt_K := (⟨"FeedAxis", "adoptTrial", "()V"⟩, prog_1_method_31_code, 1, (none : Option FieldType), ({ frames := 5, cells := 0, slots := 0, locals := 106 } : Room))
def mk_F_moveTo : mt_K := (⟨"FeedAxis", "moveTo", "(I)I"⟩, prog_1_method_9_code, 3, (some .int : Option FieldType), ({ frames := 5, cells := 0, slots := 0, locals := 117 } : Room))
def mk_A_refuses : mt_K := (⟨"FeedAxis$Axis", "refuses", "(I)Z"⟩, prog_2_method_12_code, 2, (some .boolean : Option FieldType), ({ frames := 3, cells := 0, slots := 0, locals := 70 } : Room))
def mk_A_target : mt_K := (⟨"FeedAxis$Axis", "target", "(I)I"⟩, prog_2_method_11_code, 2, (some .int : Option FieldType), ({ frames := 2, cells := 0, slots := 0, locals := 49 } : Room))
def mk_P_valueBetween : mt_K := (⟨"FeedAxis$Points", "valueBetween", "(I)I"⟩, prog_4_method_7_code, 7, (some .int : Option FieldType), ({ frames := 1, cells := 0, slots := 0, locals := 23 } : Room))
def mk_J_floorDiv : mt_K := (⟨"java/lang/Math", "floorDiv", "(II)I"⟩, prog_11_method_47_code, 3, (some .int : Option FieldType), ({ frames := 0, cells := 0, slots := 0, locals := 0 } : Room))
def mk_A_travel : mt_K := (⟨"FeedAxis$Axis", "travel", "(I)I"⟩, prog_2_method_13_code, 7, (some .int : Option FieldType), ({ frames := 4, cells := 0, slots := 0, locals := 91 } : Room))
def mk_A_microstepsTo : mt_K := (⟨"FeedAxis$Axis", "microstepsTo", "(I)I"⟩, prog_2_method_21_code, 3, (some .int : Option FieldType), ({ frames := 1, cells := 0, slots := 0, locals := 21 } : Room))
def mk_J_signum : mt_K := (⟨"java/lang/Integer", "signum", "(I)I"⟩, prog_10_method_56_code, 1, (some .int : Option FieldType), ({ frames := 0, cells := 0, slots := 0, locals := 0 } : Room))
def mk_J_abs : mt_K := (⟨"java/lang/Math", "abs", "(I)I"⟩, prog_11_method_59_code, 1, (some .int : Option FieldType), ({ frames := 0, cells := 0, slots := 0, locals := 0 } : Room))
def mk_A_loadOn : mt_K := (⟨"FeedAxis$Axis", "loadOn", "(I)I"⟩, prog_2_method_10_code, 2, (some .int : Option FieldType), ({ frames := 2, cells := 0, slots := 0, locals := 46 } : Room))
def mk_P_valueUpTo : mt_K := (⟨"FeedAxis$Points", "valueUpTo", "(II)I"⟩, prog_4_method_4_code, 4, (some .int : Option FieldType), ({ frames := 1, cells := 0, slots := 0, locals := 23 } : Room))
def mk_J_max : mt_K := (⟨"java/lang/Math", "max", "(II)I"⟩, prog_11_method_65_code, 2, (some .int : Option FieldType), ({ frames := 0, cells := 0, slots := 0, locals := 0 } : Room))
def mk_A_microstepsAlike : mt_K := (⟨"FeedAxis$Axis", "microstepsAlike", "(I)I"⟩, prog_2_method_23_code, 5, (some .int : Option FieldType), ({ frames := 3, cells := 0, slots := 0, locals := 66 } : Room))
def mk_A_stalls : mt_K := (⟨"FeedAxis$Axis", "stalls", "()Z"⟩, prog_2_method_22_code, 1, (some .boolean : Option FieldType), ({ frames := 2, cells := 0, slots := 0, locals := 46 } : Room))
def mk_A_torqueAt : mt_K := (⟨"FeedAxis$Axis", "torqueAt", "(I)I"⟩, prog_2_method_9_code, 2, (some .int : Option FieldType), ({ frames := 1, cells := 0, slots := 0, locals := 21 } : Room))
def mk_P_placeAbove : mt_K := (⟨"FeedAxis$Points", "placeAbove", "(I)I"⟩, prog_4_method_6_code, 3, (some .int : Option FieldType), ({ frames := 1, cells := 0, slots := 0, locals := 23 } : Room))
def mk_P_placeUpTo : mt_K := (⟨"FeedAxis$Points", "placeUpTo", "(I)I"⟩, prog_4_method_5_code, 3, (some .int : Option FieldType), ({ frames := 1, cells := 0, slots := 0, locals := 23 } : Room))
def mk_A_makeMicrosteps : mt_K := (⟨"FeedAxis$Axis", "makeMicrosteps", "(II)V"⟩, prog_2_method_24_code, 5, (none : Option FieldType), ({ frames := 3, cells := 0, slots := 0, locals := 66 } : Room))
def mk_A_tally : mt_K := (⟨"FeedAxis$Axis", "tally", "(II)V"⟩, prog_2_method_27_code, 3, (none : Option FieldType), ({ frames := 1, cells := 0, slots := 0, locals := 22 } : Room))
def mk_A_slip : mt_K := (⟨"FeedAxis$Axis", "slip", "()V"⟩, prog_2_method_26_code, 2, (none : Option FieldType), ({ frames := 2, cells := 0, slots := 0, locals := 44 } : Room))
def mk_A_turnMotor : mt_K := (⟨"FeedAxis$Axis", "turnMotor", "()V"⟩, prog_2_method_25_code, 1, (none : Option FieldType), ({ frames := 2, cells := 0, slots := 0, locals := 44 } : Room))
def mk_F_addCommand : mt_K := (⟨"FeedAxis", "addCommand", "(II)I"⟩, prog_1_method_10_code, 3, (some .int : Option FieldType), ({ frames := 5, cells := 0, slots := 0, locals := 106 } : Room))
def mk_C_isFull : mt_K := (⟨"FeedAxis$Commands", "isFull", "()Z"⟩, prog_3_method_3_code, 1, (some .boolean : Option FieldType), ({ frames := 0, cells := 0, slots := 0, locals := 0 } : Room))
def mk_C_insert : mt_K := (⟨"FeedAxis$Commands", "insert", "(II)V"⟩, prog_3_method_6_code, 4, (none : Option FieldType), ({ frames := 2, cells := 0, slots := 0, locals := 45 } : Room))
def mk_C_priorityOf : mt_K := (⟨"FeedAxis$Commands", "priorityOf", "(I)I"⟩, prog_3_method_5_code, 2, (some .int : Option FieldType), ({ frames := 1, cells := 0, slots := 0, locals := 21 } : Room))
def mk_F_run : mt_K := (⟨"FeedAxis", "run", "(I)I"⟩, prog_1_method_11_code, 3, (some .int : Option FieldType), ({ frames := 6, cells := 0, slots := 0, locals := 137 } : Room))
def mk_A_carryOutNext : mt_K := (⟨"FeedAxis$Axis", "carryOutNext", "()V"⟩, prog_2_method_15_code, 1, (none : Option FieldType), ({ frames := 5, cells := 0, slots := 0, locals := 117 } : Room))
def mk_C_takeNext : mt_K := (⟨"FeedAxis$Commands", "takeNext", "()I"⟩, prog_3_method_7_code, 2, (some .int : Option FieldType), ({ frames := 2, cells := 0, slots := 0, locals := 45 } : Room))
def mk_C_placeOf : mt_K := (⟨"FeedAxis$Commands", "placeOf", "(I)I"⟩, prog_3_method_4_code, 2, (some .int : Option FieldType), ({ frames := 1, cells := 0, slots := 0, locals := 21 } : Room))
def mk_F_home : mt_K := (⟨"FeedAxis", "home", "(I)I"⟩, prog_1_method_12_code, 4, (some .int : Option FieldType), ({ frames := 6, cells := 0, slots := 0, locals := 135 } : Room))
def mk_F_seekOnTrial : mt_K := (⟨"FeedAxis", "seekOnTrial", "(I)I"⟩, prog_1_method_30_code, 2, (some .int : Option FieldType), ({ frames := 5, cells := 0, slots := 0, locals := 114 } : Room))
def mk_A_seek : mt_K := (⟨"FeedAxis$Axis", "seek", "(I)Z"⟩, prog_2_method_16_code, 5, (some .boolean : Option FieldType), ({ frames := 4, cells := 0, slots := 0, locals := 90 } : Room))
def mk_A_ticksBeyond : mt_K := (⟨"FeedAxis$Axis", "ticksBeyond", "(II)I"⟩, prog_2_method_20_code, 3, (some .int : Option FieldType), ({ frames := 0, cells := 0, slots := 0, locals := 0 } : Room))
def mk_A_counterDue : mt_K := (⟨"FeedAxis$Axis", "counterDue", "(I)I"⟩, prog_2_method_17_code, 2, (some .int : Option FieldType), ({ frames := 1, cells := 0, slots := 0, locals := 21 } : Room))
def mk_A_moveCounterAlone : mt_K := (⟨"FeedAxis$Axis", "moveCounterAlone", "(I)V"⟩, prog_2_method_18_code, 2, (none : Option FieldType), ({ frames := 0, cells := 0, slots := 0, locals := 0 } : Room))
def mk_F_check : mt_K := (⟨"FeedAxis", "check", "(I)I"⟩, prog_1_method_13_code, 3, (some .int : Option FieldType), ({ frames := 6, cells := 0, slots := 0, locals := 135 } : Room))
def mk_F_correct : mt_K := (⟨"FeedAxis", "correct", "(I)I"⟩, prog_1_method_14_code, 3, (some .int : Option FieldType), ({ frames := 5, cells := 0, slots := 0, locals := 106 } : Room))
def mk_F_keep : mt_K := (⟨"FeedAxis", "keep", "(I)I"⟩, prog_1_method_15_code, 3, (some .int : Option FieldType), ({ frames := 4, cells := 0, slots := 0, locals := 84 } : Room))
def mk_F_imageNumbered : mt_K := (⟨"FeedAxis", "imageNumbered", "(I)LFeedAxis$Axis;"⟩, prog_1_method_32_code, 2, (some (.object "FeedAxis$Axis") : Option FieldType), ({ frames := 0, cells := 0, slots := 0, locals := 0 } : Room))
def mk_F_back : mt_K := (⟨"FeedAxis", "back", "(I)I"⟩, prog_1_method_16_code, 3, (some .int : Option FieldType), ({ frames := 5, cells := 0, slots := 0, locals := 106 } : Room))
def mk_F_undo : mt_K := (⟨"FeedAxis", "undo", "()I"⟩, prog_1_method_17_code, 1, (some .int : Option FieldType), ({ frames := 5, cells := 0, slots := 0, locals := 107 } : Room))
def mk_S_popInto : mt_K := (⟨"FeedAxis$Saved", "popInto", "(LFeedAxis$Axis;)Z"⟩, prog_6_method_3_code, 4, (some .boolean : Option FieldType), ({ frames := 4, cells := 0, slots := 0, locals := 84 } : Room))
def mk_F_count : mt_K := (⟨"FeedAxis", "count", "(I)I"⟩, prog_1_method_18_code, 2, (some .int : Option FieldType), ({ frames := 4, cells := 0, slots := 0, locals := 88 } : Room))
def mk_A_isReading : mt_K := (⟨"FeedAxis$Axis", "isReading", "(I)Z"⟩, prog_2_method_7_code, 1, (some .boolean : Option FieldType), ({ frames := 0, cells := 0, slots := 0, locals := 0 } : Room))
def mk_A_reading : mt_K := (⟨"FeedAxis$Axis", "reading", "(I)I"⟩, prog_2_method_8_code, 2, (some .int : Option FieldType), ({ frames := 3, cells := 0, slots := 0, locals := 67 } : Room))
def mk_F_account : mt_K := (⟨"FeedAxis", "account", "(I)I"⟩, prog_1_method_19_code, 2, (some .int : Option FieldType), ({ frames := 1, cells := 0, slots := 0, locals := 21 } : Room))
def mk_F_loadAt : mt_K := (⟨"FeedAxis", "loadAt", "(I)I"⟩, prog_1_method_20_code, 2, (some .int : Option FieldType), ({ frames := 3, cells := 0, slots := 0, locals := 67 } : Room))
def mk_F_errorAt : mt_K := (⟨"FeedAxis", "errorAt", "(I)I"⟩, prog_1_method_21_code, 2, (some .int : Option FieldType), ({ frames := 2, cells := 0, slots := 0, locals := 49 } : Room))
def mk_F_command : mt_K := (⟨"FeedAxis", "command", "(II)I"⟩, prog_1_method_22_code, 3, (some .int : Option FieldType), ({ frames := 2, cells := 0, slots := 0, locals := 42 } : Room))
def mk_F_flag : mt_K := (⟨"FeedAxis", "flag", "(I)I"⟩, prog_1_method_23_code, 2, (some .int : Option FieldType), ({ frames := 0, cells := 0, slots := 0, locals := 0 } : Room))
def mk_F_why : mt_K := (⟨"FeedAxis", "why", "(I)I"⟩, prog_1_method_24_code, 2, (some .int : Option FieldType), ({ frames := 5, cells := 0, slots := 0, locals := 117 } : Room))
def mk_A_reasonNotAt : mt_K := (⟨"FeedAxis$Axis", "reasonNotAt", "(I)I"⟩, prog_2_method_19_code, 2, (some .int : Option FieldType), ({ frames := 0, cells := 0, slots := 0, locals := 0 } : Room))
def mk_F_losses : mt_K := (⟨"FeedAxis", "losses", "(II)I"⟩, prog_1_method_25_code, 3, (some .int : Option FieldType), ({ frames := 5, cells := 0, slots := 0, locals := 117 } : Room))
def mk_F_fastest : mt_K := (⟨"FeedAxis", "fastest", "(I)I"⟩, prog_1_method_26_code, 4, (some .int : Option FieldType), ({ frames := 6, cells := 0, slots := 0, locals := 138 } : Room))
def mk_A_travelUnstalled : mt_K := (⟨"FeedAxis$Axis", "travelUnstalled", "(I)I"⟩, prog_2_method_14_code, 2, (some .int : Option FieldType), ({ frames := 5, cells := 0, slots := 0, locals := 117 } : Room))
def mk_F_counter : mt_K := (⟨"FeedAxis", "counter", "(I)I"⟩, prog_1_method_27_code, 2, (some .int : Option FieldType), ({ frames := 0, cells := 0, slots := 0, locals := 0 } : Room))
def mk_M_init : mt_K := (⟨"FeedAxisModel", "<init>", "()V"⟩, prog_9_method_1_code, 1, (none : Option FieldType), ({ frames := 1, cells := 5, slots := 900, locals := 12 } : Room))
def mk_M_undo : mt_K := (⟨"FeedAxisModel", "undo", "()I"⟩, prog_9_method_7_code, 2, (some .int : Option FieldType), ({ frames := 0, cells := 0, slots := 0, locals := 0 } : Room))
def mk_M_setNumber : mt_K := (⟨"FeedAxisModel", "setNumber", "(II)I"⟩, prog_9_method_20_code, 4, (some .int : Option FieldType), ({ frames := 2, cells := 0, slots := 0, locals := 43 } : Room))
def mk_M_isNumber : mt_K := (⟨"FeedAxisModel", "isNumber", "(II)Z"⟩, prog_9_method_19_code, 2, (some .boolean : Option FieldType), ({ frames := 1, cells := 0, slots := 0, locals := 22 } : Room))
def mk_M_in : mt_K := (⟨"FeedAxisModel", "in", "(III)Z"⟩, prog_9_method_3_code, 3, (some .boolean : Option FieldType), ({ frames := 0, cells := 0, slots := 0, locals := 0 } : Room))
def mk_M_notes : mt_K := (⟨"FeedAxisModel", "notes", "()V"⟩, prog_9_method_6_code, 2, (none : Option FieldType), ({ frames := 0, cells := 0, slots := 0, locals := 0 } : Room))
def mk_M_setLoad : mt_K := (⟨"FeedAxisModel", "setLoad", "(II)I"⟩, prog_9_method_21_code, 3, (some .int : Option FieldType), ({ frames := 5, cells := 0, slots := 0, locals := 119 } : Room))
def mk_M_isPlace : mt_K := (⟨"FeedAxisModel", "isPlace", "(I)Z"⟩, prog_9_method_11_code, 1, (some .boolean : Option FieldType), ({ frames := 1, cells := 0, slots := 0, locals := 22 } : Room))
def mk_M_sets : mt_K := (⟨"FeedAxisModel", "sets", "(IIII)I"⟩, prog_9_method_18_code, 7, (some .int : Option FieldType), ({ frames := 4, cells := 0, slots := 0, locals := 93 } : Room))
def mk_M_has : mt_K := (⟨"FeedAxisModel", "has", "(II)Z"⟩, prog_9_method_15_code, 4, (some .boolean : Option FieldType), ({ frames := 2, cells := 0, slots := 0, locals := 45 } : Room))
def mk_M_upTo : mt_K := (⟨"FeedAxisModel", "upTo", "(II)I"⟩, prog_9_method_14_code, 4, (some .int : Option FieldType), ({ frames := 1, cells := 0, slots := 0, locals := 22 } : Room))
def mk_M_placeAt : mt_K := (⟨"FeedAxisModel", "placeAt", "(II)I"⟩, prog_9_method_12_code, 3, (some .int : Option FieldType), ({ frames := 0, cells := 0, slots := 0, locals := 0 } : Room))
def mk_M_valueAt : mt_K := (⟨"FeedAxisModel", "valueAt", "(II)I"⟩, prog_9_method_13_code, 3, (some .int : Option FieldType), ({ frames := 0, cells := 0, slots := 0, locals := 0 } : Room))
def mk_M_removes : mt_K := (⟨"FeedAxisModel", "removes", "(II)V"⟩, prog_9_method_17_code, 5, (none : Option FieldType), ({ frames := 2, cells := 0, slots := 0, locals := 45 } : Room))
def mk_M_puts : mt_K := (⟨"FeedAxisModel", "puts", "(III)V"⟩, prog_9_method_16_code, 6, (none : Option FieldType), ({ frames := 3, cells := 0, slots := 0, locals := 68 } : Room))
def mk_M_setComb : mt_K := (⟨"FeedAxisModel", "setComb", "(II)I"⟩, prog_9_method_22_code, 3, (some .int : Option FieldType), ({ frames := 5, cells := 0, slots := 0, locals := 119 } : Room))
def mk_M_setFlag : mt_K := (⟨"FeedAxisModel", "setFlag", "(II)I"⟩, prog_9_method_24_code, 4, (some .int : Option FieldType), ({ frames := 2, cells := 0, slots := 0, locals := 42 } : Room))
def mk_M_flags : mt_K := (⟨"FeedAxisModel", "flags", "(II)V"⟩, prog_9_method_23_code, 3, (none : Option FieldType), ({ frames := 0, cells := 0, slots := 0, locals := 0 } : Room))
def mk_M_appendCharacter : mt_K := (⟨"FeedAxisModel", "appendCharacter", "(I)I"⟩, prog_9_method_25_code, 2, (some .int : Option FieldType), ({ frames := 1, cells := 0, slots := 0, locals := 22 } : Room))
def mk_M_clearText : mt_K := (⟨"FeedAxisModel", "clearText", "()I"⟩, prog_9_method_26_code, 2, (some .int : Option FieldType), ({ frames := 0, cells := 0, slots := 0, locals := 0 } : Room))
def mk_M_load : mt_K := (⟨"FeedAxisModel", "load", "()I"⟩, prog_9_method_32_code, 3, (some .int : Option FieldType), ({ frames := 6, cells := 0, slots := 0, locals := 141 } : Room))
def mk_M_putAside : mt_K := (⟨"FeedAxisModel", "putAside", "()V"⟩, prog_9_method_8_code, 2, (none : Option FieldType), ({ frames := 0, cells := 0, slots := 0, locals := 0 } : Room))
def mk_M_here : mt_K := (⟨"FeedAxisModel", "here", "()I"⟩, prog_9_method_27_code, 1, (some .int : Option FieldType), ({ frames := 0, cells := 0, slots := 0, locals := 0 } : Room))
def mk_M_readsItem : mt_K := (⟨"FeedAxisModel", "readsItem", "()Z"⟩, prog_9_method_31_code, 4, (some .boolean : Option FieldType), ({ frames := 5, cells := 0, slots := 0, locals := 118 } : Room))
def mk_M_readsPoint : mt_K := (⟨"FeedAxisModel", "readsPoint", "(II)Z"⟩, prog_9_method_30_code, 6, (some .boolean : Option FieldType), ({ frames := 4, cells := 0, slots := 0, locals := 93 } : Room))
def mk_M_reads : mt_K := (⟨"FeedAxisModel", "reads", "(ZII)Z"⟩, prog_9_method_29_code, 6, (some .boolean : Option FieldType), ({ frames := 2, cells := 0, slots := 0, locals := 42 } : Room))
def mk_M_takes : mt_K := (⟨"FeedAxisModel", "takes", "(I)Z"⟩, prog_9_method_28_code, 3, (some .boolean : Option FieldType), ({ frames := 1, cells := 0, slots := 0, locals := 20 } : Room))
def mk_M_swaps : mt_K := (⟨"FeedAxisModel", "swaps", "()V"⟩, prog_9_method_10_code, 3, (none : Option FieldType), ({ frames := 0, cells := 0, slots := 0, locals := 0 } : Room))
def mk_M_moveTo : mt_K := (⟨"FeedAxisModel", "moveTo", "(I)I"⟩, prog_9_method_40_code, 3, (some .int : Option FieldType), ({ frames := 5, cells := 0, slots := 0, locals := 114 } : Room))
def mk_M_aimOf : mt_K := (⟨"FeedAxisModel", "aimOf", "(I)I"⟩, prog_9_method_38_code, 2, (some .int : Option FieldType), ({ frames := 3, cells := 0, slots := 0, locals := 69 } : Room))
def mk_M_errorOf : mt_K := (⟨"FeedAxisModel", "errorOf", "(I)I"⟩, prog_9_method_34_code, 5, (some .int : Option FieldType), ({ frames := 2, cells := 0, slots := 0, locals := 45 } : Room))
def mk_M_down : mt_K := (⟨"FeedAxisModel", "down", "(II)I"⟩, prog_9_method_5_code, 2, (some .int : Option FieldType), ({ frames := 0, cells := 0, slots := 0, locals := 0 } : Room))
def mk_M_moves : mt_K := (⟨"FeedAxisModel", "moves", "(I)V"⟩, prog_9_method_39_code, 5, (none : Option FieldType), ({ frames := 4, cells := 0, slots := 0, locals := 90 } : Room))
def mk_M_size : mt_K := (⟨"FeedAxisModel", "size", "(I)I"⟩, prog_9_method_4_code, 1, (some .int : Option FieldType), ({ frames := 0, cells := 0, slots := 0, locals := 0 } : Room))
def mk_M_microstep : mt_K := (⟨"FeedAxisModel", "microstep", "(I)V"⟩, prog_9_method_37_code, 2, (none : Option FieldType), ({ frames := 3, cells := 0, slots := 0, locals := 67 } : Room))
def mk_M_torque : mt_K := (⟨"FeedAxisModel", "torque", "()I"⟩, prog_9_method_35_code, 2, (some .int : Option FieldType), ({ frames := 0, cells := 0, slots := 0, locals := 0 } : Room))
def mk_M_loadOf : mt_K := (⟨"FeedAxisModel", "loadOf", "(I)I"⟩, prog_9_method_33_code, 3, (some .int : Option FieldType), ({ frames := 2, cells := 0, slots := 0, locals := 45 } : Room))
def mk_M_follows : mt_K := (⟨"FeedAxisModel", "follows", "()V"⟩, prog_9_method_36_code, 2, (none : Option FieldType), ({ frames := 0, cells := 0, slots := 0, locals := 0 } : Room))
def mk_M_addCommand : mt_K := (⟨"FeedAxisModel", "addCommand", "(II)I"⟩, prog_9_method_42_code, 4, (some .int : Option FieldType), ({ frames := 2, cells := 0, slots := 0, locals := 42 } : Room))
def mk_M_commandOf : mt_K := (⟨"FeedAxisModel", "commandOf", "(II)I"⟩, prog_9_method_41_code, 3, (some .int : Option FieldType), ({ frames := 0, cells := 0, slots := 0, locals := 0 } : Room))
def mk_M_run : mt_K := (⟨"FeedAxisModel", "run", "(I)I"⟩, prog_9_method_43_code, 5, (some .int : Option FieldType), ({ frames := 5, cells := 0, slots := 0, locals := 114 } : Room))
def mk_M_home : mt_K := (⟨"FeedAxisModel", "home", "(I)I"⟩, prog_9_method_47_code, 4, (some .int : Option FieldType), ({ frames := 6, cells := 0, slots := 0, locals := 134 } : Room))
def mk_M_reaches : mt_K := (⟨"FeedAxisModel", "reaches", "(I)I"⟩, prog_9_method_46_code, 3, (some .int : Option FieldType), ({ frames := 5, cells := 0, slots := 0, locals := 112 } : Room))
def mk_M_seeks : mt_K := (⟨"FeedAxisModel", "seeks", "(I)Z"⟩, prog_9_method_44_code, 5, (some .boolean : Option FieldType), ({ frames := 4, cells := 0, slots := 0, locals := 88 } : Room))
def mk_M_due : mt_K := (⟨"FeedAxisModel", "due", "(I)I"⟩, prog_9_method_45_code, 2, (some .int : Option FieldType), ({ frames := 0, cells := 0, slots := 0, locals := 0 } : Room))
def mk_M_check : mt_K := (⟨"FeedAxisModel", "check", "(I)I"⟩, prog_9_method_48_code, 3, (some .int : Option FieldType), ({ frames := 6, cells := 0, slots := 0, locals := 134 } : Room))
def mk_M_correct : mt_K := (⟨"FeedAxisModel", "correct", "(I)I"⟩, prog_9_method_49_code, 2, (some .int : Option FieldType), ({ frames := 1, cells := 0, slots := 0, locals := 22 } : Room))
def mk_M_keep : mt_K := (⟨"FeedAxisModel", "keep", "(I)I"⟩, prog_9_method_51_code, 3, (some .int : Option FieldType), ({ frames := 2, cells := 0, slots := 0, locals := 42 } : Room))
def mk_M_isImage : mt_K := (⟨"FeedAxisModel", "isImage", "(I)Z"⟩, prog_9_method_50_code, 1, (some .boolean : Option FieldType), ({ frames := 1, cells := 0, slots := 0, locals := 22 } : Room))
def mk_M_back : mt_K := (⟨"FeedAxisModel", "back", "(I)I"⟩, prog_9_method_52_code, 3, (some .int : Option FieldType), ({ frames := 2, cells := 0, slots := 0, locals := 42 } : Room))
def mk_M_count : mt_K := (⟨"FeedAxisModel", "count", "(I)I"⟩, prog_9_method_53_code, 2, (some .int : Option FieldType), ({ frames := 3, cells := 0, slots := 0, locals := 67 } : Room))
def mk_M_account : mt_K := (⟨"FeedAxisModel", "account", "(I)I"⟩, prog_9_method_54_code, 2, (some .int : Option FieldType), ({ frames := 1, cells := 0, slots := 0, locals := 22 } : Room))
def mk_M_loadAt : mt_K := (⟨"FeedAxisModel", "loadAt", "(I)I"⟩, prog_9_method_55_code, 2, (some .int : Option FieldType), ({ frames := 3, cells := 0, slots := 0, locals := 67 } : Room))
def mk_M_errorAt : mt_K := (⟨"FeedAxisModel", "errorAt", "(I)I"⟩, prog_9_method_56_code, 2, (some .int : Option FieldType), ({ frames := 3, cells := 0, slots := 0, locals := 69 } : Room))
def mk_M_command : mt_K := (⟨"FeedAxisModel", "command", "(II)I"⟩, prog_9_method_57_code, 3, (some .int : Option FieldType), ({ frames := 1, cells := 0, slots := 0, locals := 22 } : Room))
def mk_M_flag : mt_K := (⟨"FeedAxisModel", "flag", "(I)I"⟩, prog_9_method_58_code, 2, (some .int : Option FieldType), ({ frames := 1, cells := 0, slots := 0, locals := 22 } : Room))
def mk_M_why : mt_K := (⟨"FeedAxisModel", "why", "(I)I"⟩, prog_9_method_59_code, 3, (some .int : Option FieldType), ({ frames := 5, cells := 0, slots := 0, locals := 114 } : Room))
def mk_M_losses : mt_K := (⟨"FeedAxisModel", "losses", "(II)I"⟩, prog_9_method_60_code, 3, (some .int : Option FieldType), ({ frames := 5, cells := 0, slots := 0, locals := 114 } : Room))
def mk_M_fastest : mt_K := (⟨"FeedAxisModel", "fastest", "(I)I"⟩, prog_9_method_62_code, 3, (some .int : Option FieldType), ({ frames := 6, cells := 0, slots := 0, locals := 136 } : Room))
def mk_M_stallsAt : mt_K := (⟨"FeedAxisModel", "stallsAt", "(II)Z"⟩, prog_9_method_61_code, 3, (some .boolean : Option FieldType), ({ frames := 5, cells := 0, slots := 0, locals := 114 } : Room))
def mk_M_counter : mt_K := (⟨"FeedAxisModel", "counter", "(I)I"⟩, prog_9_method_63_code, 2, (some .int : Option FieldType), ({ frames := 1, cells := 0, slots := 0, locals := 22 } : Room))
def mk_L_law : mt_K := (⟨"FeedAxisLaw", "law", "([I)Z"⟩, code, 4, (some .boolean : Option FieldType), room_1)
theorem ce_A_init : ce_I mk_A_init 0 := ⟨rfl, rfl, wd_i 73 (by decide +kernel), wd_i 52 (by decide +kernel), wd_i 74 (by decide +kernel), by decide +kernel, by decide +kernel, by decide +kernel⟩
theorem ce_S_init : ce_I mk_S_init 0 := ⟨rfl, rfl, wd_i 173 (by decide +kernel), wd_i 55 (by decide +kernel), wd_i 174 (by decide +kernel), by decide +kernel, by decide +kernel, by decide +kernel⟩
theorem ce_T_init : ce_I mk_T_init 0 := ⟨rfl, rfl, wd_i 192 (by decide +kernel), wd_i 56 (by decide +kernel), wd_i 193 (by decide +kernel), by decide +kernel, by decide +kernel, by decide +kernel⟩
theorem ce_P_init : ce_I mk_P_init 0 := ⟨rfl, rfl, wd_i 79 (by decide +kernel), wd_i 53 (by decide +kernel), wd_i 80 (by decide +kernel), by decide +kernel, by decide +kernel, by decide +kernel⟩
theorem ce_C_init : ce_I mk_C_init 0 := ⟨rfl, rfl, wd_i 97 (by decide +kernel), wd_i 54 (by decide +kernel), wd_i 98 (by decide +kernel), by decide +kernel, by decide +kernel, by decide +kernel⟩
theorem ce_A_isNumberInRange : ce_S mk_A_isNumberInRange 2 := ⟨wd_i 233 (by decide +kernel), wd_i 52 (by decide +kernel), wd_i 234 (by decide +kernel), by decide +kernel, by decide +kernel, by decide +kernel⟩
theorem ce_A_number : ce_V mk_A_number 1 := ⟨wd_i 250 (by decide +kernel), wd_i 251 (by decide +kernel), wd_i 52 (by decide +kernel), wd_i 252 (by decide +kernel), by decide +kernel, by decide +kernel, by decide +kernel⟩
theorem ce_S_push : ce_V mk_S_push 1 := ⟨wd_i 254 (by decide +kernel), wd_i 255 (by decide +kernel), wd_i 55 (by decide +kernel), wd_i 256 (by decide +kernel), by decide +kernel, by decide +kernel, by decide +kernel⟩
theorem ce_A_changeNumber : ce_V mk_A_changeNumber 2 := ⟨wd_i 286 (by decide +kernel), wd_i 287 (by decide +kernel), wd_i 52 (by decide +kernel), wd_i 288 (by decide +kernel), by decide +kernel, by decide +kernel, by decide +kernel⟩
theorem ce_R_at : ce_S mk_R_at 2 := ⟨wd_i 238 (by decide +kernel), wd_i 58 (by decide +kernel), wd_i 239 (by decide +kernel), by decide +kernel, by decide +kernel, by decide +kernel⟩
theorem ce_J_bitCount : ce_S mk_J_bitCount 1 := ⟨wd_i 243 (by decide +kernel), wd_i 59 (by decide +kernel), wd_i 244 (by decide +kernel), by decide +kernel, by decide +kernel, by decide +kernel⟩
theorem ce_S_rowAt : ce_V mk_S_rowAt 1 := ⟨wd_i 259 (by decide +kernel), wd_i 0 (by decide +kernel), wd_i 55 (by decide +kernel), wd_i 260 (by decide +kernel), by decide +kernel, by decide +kernel, by decide +kernel⟩
theorem ce_A_copyFrom : ce_V mk_A_copyFrom 1 := ⟨wd_i 262 (by decide +kernel), wd_i 263 (by decide +kernel), wd_i 52 (by decide +kernel), wd_i 264 (by decide +kernel), by decide +kernel, by decide +kernel, by decide +kernel⟩
theorem ce_J_min : ce_S mk_J_min 2 := ⟨wd_i 269 (by decide +kernel), wd_i 60 (by decide +kernel), wd_i 270 (by decide +kernel), by decide +kernel, by decide +kernel, by decide +kernel⟩
theorem ce_R_copy : ce_S mk_R_copy 2 := ⟨wd_i 266 (by decide +kernel), wd_i 58 (by decide +kernel), wd_i 267 (by decide +kernel), by decide +kernel, by decide +kernel, by decide +kernel⟩
theorem ce_P_copyFrom : ce_V mk_P_copyFrom 1 := ⟨wd_i 275 (by decide +kernel), wd_i 276 (by decide +kernel), wd_i 53 (by decide +kernel), wd_i 277 (by decide +kernel), by decide +kernel, by decide +kernel, by decide +kernel⟩
theorem ce_C_copyFrom : ce_V mk_C_copyFrom 1 := ⟨wd_i 280 (by decide +kernel), wd_i 281 (by decide +kernel), wd_i 54 (by decide +kernel), wd_i 282 (by decide +kernel), by decide +kernel, by decide +kernel, by decide +kernel⟩
theorem ce_R_put : ce_S mk_R_put 3 := ⟨wd_i 290 (by decide +kernel), wd_i 58 (by decide +kernel), wd_i 291 (by decide +kernel), by decide +kernel, by decide +kernel, by decide +kernel⟩
theorem ce_F_isPlace : ce_S mk_F_isPlace 1 := ⟨wd_i 297 (by decide +kernel), wd_i 51 (by decide +kernel), wd_i 298 (by decide +kernel), by decide +kernel, by decide +kernel, by decide +kernel⟩
theorem ce_F_setPoint : ce_V mk_F_setPoint 4 := ⟨wd_i 301 (by decide +kernel), wd_i 1 (by decide +kernel), wd_i 51 (by decide +kernel), wd_i 302 (by decide +kernel), by decide +kernel, by decide +kernel, by decide +kernel⟩
theorem ce_P_valueAt : ce_V mk_P_valueAt 2 := ⟨wd_i 304 (by decide +kernel), wd_i 305 (by decide +kernel), wd_i 53 (by decide +kernel), wd_i 306 (by decide +kernel), by decide +kernel, by decide +kernel, by decide +kernel⟩
theorem ce_P_remove : ce_V mk_P_remove 1 := ⟨wd_i 318 (by decide +kernel), wd_i 319 (by decide +kernel), wd_i 53 (by decide +kernel), wd_i 320 (by decide +kernel), by decide +kernel, by decide +kernel, by decide +kernel⟩
theorem ce_P_hasRoomFor : ce_V mk_P_hasRoomFor 1 := ⟨wd_i 327 (by decide +kernel), wd_i 328 (by decide +kernel), wd_i 53 (by decide +kernel), wd_i 329 (by decide +kernel), by decide +kernel, by decide +kernel, by decide +kernel⟩
theorem ce_P_put : ce_V mk_P_put 2 := ⟨wd_i 332 (by decide +kernel), wd_i 333 (by decide +kernel), wd_i 53 (by decide +kernel), wd_i 334 (by decide +kernel), by decide +kernel, by decide +kernel, by decide +kernel⟩
theorem ce_P_lastUpTo : ce_V mk_P_lastUpTo 1 := ⟨wd_i 309 (by decide +kernel), wd_i 2 (by decide +kernel), wd_i 53 (by decide +kernel), wd_i 310 (by decide +kernel), by decide +kernel, by decide +kernel, by decide +kernel⟩
theorem ce_P_isAt : ce_V mk_P_isAt 2 := ⟨wd_i 313 (by decide +kernel), wd_i 3 (by decide +kernel), wd_i 53 (by decide +kernel), wd_i 314 (by decide +kernel), by decide +kernel, by decide +kernel, by decide +kernel⟩
theorem ce_R_closeGap : ce_S mk_R_closeGap 3 := ⟨wd_i 322 (by decide +kernel), wd_i 58 (by decide +kernel), wd_i 323 (by decide +kernel), by decide +kernel, by decide +kernel, by decide +kernel⟩
theorem ce_R_openGap : ce_S mk_R_openGap 3 := ⟨wd_i 336 (by decide +kernel), wd_i 58 (by decide +kernel), wd_i 337 (by decide +kernel), by decide +kernel, by decide +kernel, by decide +kernel⟩
theorem ce_A_placeFlag : ce_V mk_A_placeFlag 2 := ⟨wd_i 348 (by decide +kernel), wd_i 349 (by decide +kernel), wd_i 52 (by decide +kernel), wd_i 350 (by decide +kernel), by decide +kernel, by decide +kernel, by decide +kernel⟩
theorem ce_T_append : ce_V mk_T_append 1 := ⟨wd_i 356 (by decide +kernel), wd_i 357 (by decide +kernel), wd_i 56 (by decide +kernel), wd_i 358 (by decide +kernel), by decide +kernel, by decide +kernel, by decide +kernel⟩
theorem ce_T_readInto : ce_V mk_T_readInto 1 := ⟨wd_i 370 (by decide +kernel), wd_i 371 (by decide +kernel), wd_i 56 (by decide +kernel), wd_i 372 (by decide +kernel), by decide +kernel, by decide +kernel, by decide +kernel⟩
theorem ce_F_adoptTrial : ce_V mk_F_adoptTrial 0 := ⟨wd_i 417 (by decide +kernel), wd_i 11 (by decide +kernel), wd_i 51 (by decide +kernel), wd_i 418 (by decide +kernel), by decide +kernel, by decide +kernel, by decide +kernel⟩
theorem ce_T_skipSpaces : ce_V mk_T_skipSpaces 0 := ⟨wd_i 375 (by decide +kernel), wd_i 4 (by decide +kernel), wd_i 56 (by decide +kernel), wd_i 376 (by decide +kernel), by decide +kernel, by decide +kernel, by decide +kernel⟩
theorem ce_T_readItem : ce_V mk_T_readItem 1 := ⟨wd_i 384 (by decide +kernel), wd_i 6 (by decide +kernel), wd_i 56 (by decide +kernel), wd_i 385 (by decide +kernel), by decide +kernel, by decide +kernel, by decide +kernel⟩
theorem ce_T_nextCharacter : ce_V mk_T_nextCharacter 0 := ⟨wd_i 379 (by decide +kernel), wd_i 5 (by decide +kernel), wd_i 56 (by decide +kernel), wd_i 380 (by decide +kernel), by decide +kernel, by decide +kernel, by decide +kernel⟩
theorem ce_T_readNumber : ce_V mk_T_readNumber 3 := ⟨wd_i 388 (by decide +kernel), wd_i 7 (by decide +kernel), wd_i 56 (by decide +kernel), wd_i 389 (by decide +kernel), by decide +kernel, by decide +kernel, by decide +kernel⟩
theorem ce_T_expect : ce_V mk_T_expect 1 := ⟨wd_i 399 (by decide +kernel), wd_i 9 (by decide +kernel), wd_i 56 (by decide +kernel), wd_i 400 (by decide +kernel), by decide +kernel, by decide +kernel, by decide +kernel⟩
theorem ce_T_leastSecond : ce_S mk_T_leastSecond 2 := ⟨wd_i 402 (by decide +kernel), wd_i 56 (by decide +kernel), wd_i 403 (by decide +kernel), by decide +kernel, by decide +kernel, by decide +kernel⟩
theorem ce_T_greatestSecond : ce_S mk_T_greatestSecond 1 := ⟨wd_i 405 (by decide +kernel), wd_i 56 (by decide +kernel), wd_i 406 (by decide +kernel), by decide +kernel, by decide +kernel, by decide +kernel⟩
theorem ce_T_setItem : ce_V mk_T_setItem 5 := ⟨wd_i 409 (by decide +kernel), wd_i 10 (by decide +kernel), wd_i 56 (by decide +kernel), wd_i 410 (by decide +kernel), by decide +kernel, by decide +kernel, by decide +kernel⟩
theorem ce_T_readDigits : ce_V mk_T_readDigits 0 := ⟨wd_i 392 (by decide +kernel), wd_i 8 (by decide +kernel), wd_i 56 (by decide +kernel), wd_i 393 (by decide +kernel), by decide +kernel, by decide +kernel, by decide +kernel⟩
theorem ce_T_isDigit : ce_S mk_T_isDigit 1 := ⟨wd_i 395 (by decide +kernel), wd_i 56 (by decide +kernel), wd_i 396 (by decide +kernel), by decide +kernel, by decide +kernel, by decide +kernel⟩
theorem ce_A_refuses : ce_V mk_A_refuses 1 := ⟨wd_i 424 (by decide +kernel), wd_i 425 (by decide +kernel), wd_i 52 (by decide +kernel), wd_i 426 (by decide +kernel), by decide +kernel, by decide +kernel, by decide +kernel⟩
theorem ce_A_travel : ce_V mk_A_travel 1 := ⟨wd_i 440 (by decide +kernel), wd_i 441 (by decide +kernel), wd_i 52 (by decide +kernel), wd_i 442 (by decide +kernel), by decide +kernel, by decide +kernel, by decide +kernel⟩
theorem ce_A_target : ce_V mk_A_target 1 := ⟨wd_i 428 (by decide +kernel), wd_i 429 (by decide +kernel), wd_i 52 (by decide +kernel), wd_i 430 (by decide +kernel), by decide +kernel, by decide +kernel, by decide +kernel⟩
theorem ce_P_valueBetween : ce_V mk_P_valueBetween 1 := ⟨wd_i 432 (by decide +kernel), wd_i 433 (by decide +kernel), wd_i 53 (by decide +kernel), wd_i 434 (by decide +kernel), by decide +kernel, by decide +kernel, by decide +kernel⟩
theorem ce_J_floorDiv : ce_S mk_J_floorDiv 2 := ⟨wd_i 436 (by decide +kernel), wd_i 60 (by decide +kernel), wd_i 437 (by decide +kernel), by decide +kernel, by decide +kernel, by decide +kernel⟩
theorem ce_A_microstepsTo : ce_V mk_A_microstepsTo 1 := ⟨wd_i 446 (by decide +kernel), wd_i 12 (by decide +kernel), wd_i 52 (by decide +kernel), wd_i 447 (by decide +kernel), by decide +kernel, by decide +kernel, by decide +kernel⟩
theorem ce_J_signum : ce_S mk_J_signum 1 := ⟨wd_i 450 (by decide +kernel), wd_i 59 (by decide +kernel), wd_i 451 (by decide +kernel), by decide +kernel, by decide +kernel, by decide +kernel⟩
theorem ce_J_abs : ce_S mk_J_abs 1 := ⟨wd_i 453 (by decide +kernel), wd_i 60 (by decide +kernel), wd_i 454 (by decide +kernel), by decide +kernel, by decide +kernel, by decide +kernel⟩
theorem ce_A_loadOn : ce_V mk_A_loadOn 1 := ⟨wd_i 456 (by decide +kernel), wd_i 457 (by decide +kernel), wd_i 52 (by decide +kernel), wd_i 458 (by decide +kernel), by decide +kernel, by decide +kernel, by decide +kernel⟩
theorem ce_J_max : ce_S mk_J_max 2 := ⟨wd_i 464 (by decide +kernel), wd_i 60 (by decide +kernel), wd_i 465 (by decide +kernel), by decide +kernel, by decide +kernel, by decide +kernel⟩
theorem ce_A_microstepsAlike : ce_V mk_A_microstepsAlike 1 := ⟨wd_i 468 (by decide +kernel), wd_i 13 (by decide +kernel), wd_i 52 (by decide +kernel), wd_i 469 (by decide +kernel), by decide +kernel, by decide +kernel, by decide +kernel⟩
theorem ce_A_makeMicrosteps : ce_V mk_A_makeMicrosteps 2 := ⟨wd_i 492 (by decide +kernel), wd_i 15 (by decide +kernel), wd_i 52 (by decide +kernel), wd_i 493 (by decide +kernel), by decide +kernel, by decide +kernel, by decide +kernel⟩
theorem ce_P_valueUpTo : ce_V mk_P_valueUpTo 2 := ⟨wd_i 460 (by decide +kernel), wd_i 461 (by decide +kernel), wd_i 53 (by decide +kernel), wd_i 462 (by decide +kernel), by decide +kernel, by decide +kernel, by decide +kernel⟩
theorem ce_A_stalls : ce_V mk_A_stalls 0 := ⟨wd_i 472 (by decide +kernel), wd_i 14 (by decide +kernel), wd_i 52 (by decide +kernel), wd_i 473 (by decide +kernel), by decide +kernel, by decide +kernel, by decide +kernel⟩
theorem ce_P_placeAbove : ce_V mk_P_placeAbove 1 := ⟨wd_i 480 (by decide +kernel), wd_i 481 (by decide +kernel), wd_i 53 (by decide +kernel), wd_i 482 (by decide +kernel), by decide +kernel, by decide +kernel, by decide +kernel⟩
theorem ce_P_placeUpTo : ce_V mk_P_placeUpTo 1 := ⟨wd_i 485 (by decide +kernel), wd_i 486 (by decide +kernel), wd_i 53 (by decide +kernel), wd_i 487 (by decide +kernel), by decide +kernel, by decide +kernel, by decide +kernel⟩
theorem ce_A_torqueAt : ce_V mk_A_torqueAt 1 := ⟨wd_i 475 (by decide +kernel), wd_i 476 (by decide +kernel), wd_i 52 (by decide +kernel), wd_i 477 (by decide +kernel), by decide +kernel, by decide +kernel, by decide +kernel⟩
theorem ce_A_tally : ce_V mk_A_tally 2 := ⟨wd_i 496 (by decide +kernel), wd_i 16 (by decide +kernel), wd_i 52 (by decide +kernel), wd_i 497 (by decide +kernel), by decide +kernel, by decide +kernel, by decide +kernel⟩
theorem ce_A_slip : ce_V mk_A_slip 0 := ⟨wd_i 500 (by decide +kernel), wd_i 17 (by decide +kernel), wd_i 52 (by decide +kernel), wd_i 501 (by decide +kernel), by decide +kernel, by decide +kernel, by decide +kernel⟩
theorem ce_A_turnMotor : ce_V mk_A_turnMotor 0 := ⟨wd_i 504 (by decide +kernel), wd_i 18 (by decide +kernel), wd_i 52 (by decide +kernel), wd_i 505 (by decide +kernel), by decide +kernel, by decide +kernel, by decide +kernel⟩
theorem ce_C_isFull : ce_V mk_C_isFull 0 := ⟨wd_i 511 (by decide +kernel), wd_i 512 (by decide +kernel), wd_i 54 (by decide +kernel), wd_i 513 (by decide +kernel), by decide +kernel, by decide +kernel, by decide +kernel⟩
theorem ce_C_insert : ce_V mk_C_insert 2 := ⟨wd_i 515 (by decide +kernel), wd_i 516 (by decide +kernel), wd_i 54 (by decide +kernel), wd_i 517 (by decide +kernel), by decide +kernel, by decide +kernel, by decide +kernel⟩
theorem ce_C_priorityOf : ce_V mk_C_priorityOf 1 := ⟨wd_i 519 (by decide +kernel), wd_i 520 (by decide +kernel), wd_i 54 (by decide +kernel), wd_i 521 (by decide +kernel), by decide +kernel, by decide +kernel, by decide +kernel⟩
theorem ce_A_carryOutNext : ce_V mk_A_carryOutNext 0 := ⟨wd_i 530 (by decide +kernel), wd_i 531 (by decide +kernel), wd_i 52 (by decide +kernel), wd_i 532 (by decide +kernel), by decide +kernel, by decide +kernel, by decide +kernel⟩
theorem ce_C_takeNext : ce_V mk_C_takeNext 0 := ⟨wd_i 534 (by decide +kernel), wd_i 535 (by decide +kernel), wd_i 54 (by decide +kernel), wd_i 536 (by decide +kernel), by decide +kernel, by decide +kernel, by decide +kernel⟩
theorem ce_C_placeOf : ce_V mk_C_placeOf 1 := ⟨wd_i 538 (by decide +kernel), wd_i 539 (by decide +kernel), wd_i 54 (by decide +kernel), wd_i 540 (by decide +kernel), by decide +kernel, by decide +kernel, by decide +kernel⟩
theorem ce_F_seekOnTrial : ce_V mk_F_seekOnTrial 1 := ⟨wd_i 549 (by decide +kernel), wd_i 19 (by decide +kernel), wd_i 51 (by decide +kernel), wd_i 550 (by decide +kernel), by decide +kernel, by decide +kernel, by decide +kernel⟩
theorem ce_A_counterDue : ce_V mk_A_counterDue 1 := ⟨wd_i 561 (by decide +kernel), wd_i 562 (by decide +kernel), wd_i 52 (by decide +kernel), wd_i 563 (by decide +kernel), by decide +kernel, by decide +kernel, by decide +kernel⟩
theorem ce_A_moveCounterAlone : ce_V mk_A_moveCounterAlone 1 := ⟨wd_i 565 (by decide +kernel), wd_i 566 (by decide +kernel), wd_i 52 (by decide +kernel), wd_i 567 (by decide +kernel), by decide +kernel, by decide +kernel, by decide +kernel⟩
theorem ce_A_seek : ce_V mk_A_seek 1 := ⟨wd_i 552 (by decide +kernel), wd_i 553 (by decide +kernel), wd_i 52 (by decide +kernel), wd_i 554 (by decide +kernel), by decide +kernel, by decide +kernel, by decide +kernel⟩
theorem ce_A_ticksBeyond : ce_V mk_A_ticksBeyond 2 := ⟨wd_i 557 (by decide +kernel), wd_i 20 (by decide +kernel), wd_i 52 (by decide +kernel), wd_i 558 (by decide +kernel), by decide +kernel, by decide +kernel, by decide +kernel⟩
theorem ce_F_imageNumbered : ce_V mk_F_imageNumbered 1 := ⟨wd_i 584 (by decide +kernel), wd_i 21 (by decide +kernel), wd_i 51 (by decide +kernel), wd_i 585 (by decide +kernel), by decide +kernel, by decide +kernel, by decide +kernel⟩
theorem ce_S_popInto : ce_V mk_S_popInto 1 := ⟨wd_i 595 (by decide +kernel), wd_i 596 (by decide +kernel), wd_i 55 (by decide +kernel), wd_i 597 (by decide +kernel), by decide +kernel, by decide +kernel, by decide +kernel⟩
theorem ce_A_isReading : ce_S mk_A_isReading 1 := ⟨wd_i 603 (by decide +kernel), wd_i 52 (by decide +kernel), wd_i 604 (by decide +kernel), by decide +kernel, by decide +kernel, by decide +kernel⟩
theorem ce_A_reading : ce_V mk_A_reading 1 := ⟨wd_i 606 (by decide +kernel), wd_i 607 (by decide +kernel), wd_i 52 (by decide +kernel), wd_i 608 (by decide +kernel), by decide +kernel, by decide +kernel, by decide +kernel⟩
theorem ce_A_reasonNotAt : ce_V mk_A_reasonNotAt 1 := ⟨wd_i 640 (by decide +kernel), wd_i 641 (by decide +kernel), wd_i 52 (by decide +kernel), wd_i 642 (by decide +kernel), by decide +kernel, by decide +kernel, by decide +kernel⟩
theorem ce_A_travelUnstalled : ce_V mk_A_travelUnstalled 1 := ⟨wd_i 652 (by decide +kernel), wd_i 653 (by decide +kernel), wd_i 52 (by decide +kernel), wd_i 654 (by decide +kernel), by decide +kernel, by decide +kernel, by decide +kernel⟩
theorem ce_M_isNumber : ce_S mk_M_isNumber 2 := ⟨wd_i 709 (by decide +kernel), wd_i 57 (by decide +kernel), wd_i 710 (by decide +kernel), by decide +kernel, by decide +kernel, by decide +kernel⟩
theorem ce_M_notes : ce_V mk_M_notes 0 := ⟨wd_i 717 (by decide +kernel), wd_i 22 (by decide +kernel), wd_i 57 (by decide +kernel), wd_i 718 (by decide +kernel), by decide +kernel, by decide +kernel, by decide +kernel⟩
theorem ce_M_in : ce_S mk_M_in 3 := ⟨wd_i 712 (by decide +kernel), wd_i 57 (by decide +kernel), wd_i 713 (by decide +kernel), by decide +kernel, by decide +kernel, by decide +kernel⟩
theorem ce_M_isPlace : ce_S mk_M_isPlace 1 := ⟨wd_i 724 (by decide +kernel), wd_i 57 (by decide +kernel), wd_i 725 (by decide +kernel), by decide +kernel, by decide +kernel, by decide +kernel⟩
theorem ce_M_sets : ce_V mk_M_sets 4 := ⟨wd_i 728 (by decide +kernel), wd_i 23 (by decide +kernel), wd_i 57 (by decide +kernel), wd_i 729 (by decide +kernel), by decide +kernel, by decide +kernel, by decide +kernel⟩
theorem ce_M_has : ce_V mk_M_has 2 := ⟨wd_i 732 (by decide +kernel), wd_i 24 (by decide +kernel), wd_i 57 (by decide +kernel), wd_i 733 (by decide +kernel), by decide +kernel, by decide +kernel, by decide +kernel⟩
theorem ce_M_upTo : ce_V mk_M_upTo 2 := ⟨wd_i 736 (by decide +kernel), wd_i 25 (by decide +kernel), wd_i 57 (by decide +kernel), wd_i 737 (by decide +kernel), by decide +kernel, by decide +kernel, by decide +kernel⟩
theorem ce_M_valueAt : ce_V mk_M_valueAt 2 := ⟨wd_i 745 (by decide +kernel), wd_i 27 (by decide +kernel), wd_i 57 (by decide +kernel), wd_i 746 (by decide +kernel), by decide +kernel, by decide +kernel, by decide +kernel⟩
theorem ce_M_removes : ce_V mk_M_removes 2 := ⟨wd_i 749 (by decide +kernel), wd_i 28 (by decide +kernel), wd_i 57 (by decide +kernel), wd_i 750 (by decide +kernel), by decide +kernel, by decide +kernel, by decide +kernel⟩
theorem ce_M_puts : ce_V mk_M_puts 3 := ⟨wd_i 753 (by decide +kernel), wd_i 29 (by decide +kernel), wd_i 57 (by decide +kernel), wd_i 754 (by decide +kernel), by decide +kernel, by decide +kernel, by decide +kernel⟩
theorem ce_M_placeAt : ce_V mk_M_placeAt 2 := ⟨wd_i 740 (by decide +kernel), wd_i 26 (by decide +kernel), wd_i 57 (by decide +kernel), wd_i 741 (by decide +kernel), by decide +kernel, by decide +kernel, by decide +kernel⟩
theorem ce_M_flags : ce_V mk_M_flags 2 := ⟨wd_i 765 (by decide +kernel), wd_i 30 (by decide +kernel), wd_i 57 (by decide +kernel), wd_i 766 (by decide +kernel), by decide +kernel, by decide +kernel, by decide +kernel⟩
theorem ce_M_putAside : ce_V mk_M_putAside 0 := ⟨wd_i 781 (by decide +kernel), wd_i 31 (by decide +kernel), wd_i 57 (by decide +kernel), wd_i 782 (by decide +kernel), by decide +kernel, by decide +kernel, by decide +kernel⟩
theorem ce_M_here : ce_V mk_M_here 0 := ⟨wd_i 785 (by decide +kernel), wd_i 32 (by decide +kernel), wd_i 57 (by decide +kernel), wd_i 786 (by decide +kernel), by decide +kernel, by decide +kernel, by decide +kernel⟩
theorem ce_M_readsItem : ce_V mk_M_readsItem 0 := ⟨wd_i 789 (by decide +kernel), wd_i 33 (by decide +kernel), wd_i 57 (by decide +kernel), wd_i 790 (by decide +kernel), by decide +kernel, by decide +kernel, by decide +kernel⟩
theorem ce_M_swaps : ce_V mk_M_swaps 0 := ⟨wd_i 805 (by decide +kernel), wd_i 37 (by decide +kernel), wd_i 57 (by decide +kernel), wd_i 806 (by decide +kernel), by decide +kernel, by decide +kernel, by decide +kernel⟩
theorem ce_M_readsPoint : ce_V mk_M_readsPoint 2 := ⟨wd_i 793 (by decide +kernel), wd_i 34 (by decide +kernel), wd_i 57 (by decide +kernel), wd_i 794 (by decide +kernel), by decide +kernel, by decide +kernel, by decide +kernel⟩
theorem ce_M_reads : ce_V mk_M_reads 3 := ⟨wd_i 797 (by decide +kernel), wd_i 35 (by decide +kernel), wd_i 57 (by decide +kernel), wd_i 798 (by decide +kernel), by decide +kernel, by decide +kernel, by decide +kernel⟩
theorem ce_M_takes : ce_V mk_M_takes 1 := ⟨wd_i 801 (by decide +kernel), wd_i 36 (by decide +kernel), wd_i 57 (by decide +kernel), wd_i 802 (by decide +kernel), by decide +kernel, by decide +kernel, by decide +kernel⟩
theorem ce_M_aimOf : ce_V mk_M_aimOf 1 := ⟨wd_i 814 (by decide +kernel), wd_i 38 (by decide +kernel), wd_i 57 (by decide +kernel), wd_i 815 (by decide +kernel), by decide +kernel, by decide +kernel, by decide +kernel⟩
theorem ce_M_moves : ce_V mk_M_moves 1 := ⟨wd_i 825 (by decide +kernel), wd_i 40 (by decide +kernel), wd_i 57 (by decide +kernel), wd_i 826 (by decide +kernel), by decide +kernel, by decide +kernel, by decide +kernel⟩
theorem ce_M_errorOf : ce_V mk_M_errorOf 1 := ⟨wd_i 818 (by decide +kernel), wd_i 39 (by decide +kernel), wd_i 57 (by decide +kernel), wd_i 819 (by decide +kernel), by decide +kernel, by decide +kernel, by decide +kernel⟩
theorem ce_M_down : ce_S mk_M_down 2 := ⟨wd_i 821 (by decide +kernel), wd_i 57 (by decide +kernel), wd_i 822 (by decide +kernel), by decide +kernel, by decide +kernel, by decide +kernel⟩
theorem ce_M_size : ce_S mk_M_size 1 := ⟨wd_i 828 (by decide +kernel), wd_i 57 (by decide +kernel), wd_i 829 (by decide +kernel), by decide +kernel, by decide +kernel, by decide +kernel⟩
theorem ce_M_microstep : ce_V mk_M_microstep 1 := ⟨wd_i 832 (by decide +kernel), wd_i 41 (by decide +kernel), wd_i 57 (by decide +kernel), wd_i 833 (by decide +kernel), by decide +kernel, by decide +kernel, by decide +kernel⟩
theorem ce_M_torque : ce_V mk_M_torque 0 := ⟨wd_i 836 (by decide +kernel), wd_i 42 (by decide +kernel), wd_i 57 (by decide +kernel), wd_i 837 (by decide +kernel), by decide +kernel, by decide +kernel, by decide +kernel⟩
theorem ce_M_loadOf : ce_V mk_M_loadOf 1 := ⟨wd_i 840 (by decide +kernel), wd_i 43 (by decide +kernel), wd_i 57 (by decide +kernel), wd_i 841 (by decide +kernel), by decide +kernel, by decide +kernel, by decide +kernel⟩
theorem ce_M_follows : ce_V mk_M_follows 0 := ⟨wd_i 844 (by decide +kernel), wd_i 44 (by decide +kernel), wd_i 57 (by decide +kernel), wd_i 845 (by decide +kernel), by decide +kernel, by decide +kernel, by decide +kernel⟩
theorem ce_M_commandOf : ce_V mk_M_commandOf 2 := ⟨wd_i 852 (by decide +kernel), wd_i 45 (by decide +kernel), wd_i 57 (by decide +kernel), wd_i 853 (by decide +kernel), by decide +kernel, by decide +kernel, by decide +kernel⟩
theorem ce_M_reaches : ce_V mk_M_reaches 1 := ⟨wd_i 864 (by decide +kernel), wd_i 46 (by decide +kernel), wd_i 57 (by decide +kernel), wd_i 865 (by decide +kernel), by decide +kernel, by decide +kernel, by decide +kernel⟩
theorem ce_M_due : ce_V mk_M_due 1 := ⟨wd_i 873 (by decide +kernel), wd_i 48 (by decide +kernel), wd_i 57 (by decide +kernel), wd_i 874 (by decide +kernel), by decide +kernel, by decide +kernel, by decide +kernel⟩
theorem ce_M_seeks : ce_V mk_M_seeks 1 := ⟨wd_i 868 (by decide +kernel), wd_i 47 (by decide +kernel), wd_i 57 (by decide +kernel), wd_i 869 (by decide +kernel), by decide +kernel, by decide +kernel, by decide +kernel⟩
theorem ce_M_isImage : ce_S mk_M_isImage 1 := ⟨wd_i 890 (by decide +kernel), wd_i 57 (by decide +kernel), wd_i 891 (by decide +kernel), by decide +kernel, by decide +kernel, by decide +kernel⟩
theorem ce_M_stallsAt : ce_V mk_M_stallsAt 2 := ⟨wd_i 934 (by decide +kernel), wd_i 49 (by decide +kernel), wd_i 57 (by decide +kernel), wd_i 935 (by decide +kernel), by decide +kernel, by decide +kernel, by decide +kernel⟩
theorem ce_F_init : ce_I mk_F_init 0 := ⟨rfl, rfl, wd_i 65 (by decide +kernel), wd_i 51 (by decide +kernel), wd_i 66 (by decide +kernel), by decide +kernel, by decide +kernel, by decide +kernel⟩
theorem ce_M_init : ce_I mk_M_init 0 := ⟨rfl, rfl, wd_i 664 (by decide +kernel), wd_i 57 (by decide +kernel), wd_i 665 (by decide +kernel), by decide +kernel, by decide +kernel, by decide +kernel⟩
theorem ce_F_setNumber : ce_V mk_F_setNumber 2 := ⟨wd_i 229 (by decide +kernel), wd_i 230 (by decide +kernel), wd_i 51 (by decide +kernel), wd_i 231 (by decide +kernel), by decide +kernel, by decide +kernel, by decide +kernel⟩
theorem ce_M_setNumber : ce_V mk_M_setNumber 2 := ⟨wd_i 705 (by decide +kernel), wd_i 706 (by decide +kernel), wd_i 57 (by decide +kernel), wd_i 707 (by decide +kernel), by decide +kernel, by decide +kernel, by decide +kernel⟩
theorem ce_F_setLoad : ce_V mk_F_setLoad 2 := ⟨wd_i 293 (by decide +kernel), wd_i 294 (by decide +kernel), wd_i 51 (by decide +kernel), wd_i 295 (by decide +kernel), by decide +kernel, by decide +kernel, by decide +kernel⟩
theorem ce_M_setLoad : ce_V mk_M_setLoad 2 := ⟨wd_i 720 (by decide +kernel), wd_i 721 (by decide +kernel), wd_i 57 (by decide +kernel), wd_i 722 (by decide +kernel), by decide +kernel, by decide +kernel, by decide +kernel⟩
theorem ce_F_setComb : ce_V mk_F_setComb 2 := ⟨wd_i 340 (by decide +kernel), wd_i 341 (by decide +kernel), wd_i 51 (by decide +kernel), wd_i 342 (by decide +kernel), by decide +kernel, by decide +kernel, by decide +kernel⟩
theorem ce_M_setComb : ce_V mk_M_setComb 2 := ⟨wd_i 756 (by decide +kernel), wd_i 757 (by decide +kernel), wd_i 57 (by decide +kernel), wd_i 758 (by decide +kernel), by decide +kernel, by decide +kernel, by decide +kernel⟩
theorem ce_F_setFlag : ce_V mk_F_setFlag 2 := ⟨wd_i 344 (by decide +kernel), wd_i 345 (by decide +kernel), wd_i 51 (by decide +kernel), wd_i 346 (by decide +kernel), by decide +kernel, by decide +kernel, by decide +kernel⟩
theorem ce_M_setFlag : ce_V mk_M_setFlag 2 := ⟨wd_i 760 (by decide +kernel), wd_i 761 (by decide +kernel), wd_i 57 (by decide +kernel), wd_i 762 (by decide +kernel), by decide +kernel, by decide +kernel, by decide +kernel⟩
theorem ce_F_appendCharacter : ce_V mk_F_appendCharacter 1 := ⟨wd_i 352 (by decide +kernel), wd_i 353 (by decide +kernel), wd_i 51 (by decide +kernel), wd_i 354 (by decide +kernel), by decide +kernel, by decide +kernel, by decide +kernel⟩
theorem ce_M_appendCharacter : ce_V mk_M_appendCharacter 1 := ⟨wd_i 768 (by decide +kernel), wd_i 769 (by decide +kernel), wd_i 57 (by decide +kernel), wd_i 770 (by decide +kernel), by decide +kernel, by decide +kernel, by decide +kernel⟩
theorem ce_F_clearText : ce_V mk_F_clearText 0 := ⟨wd_i 361 (by decide +kernel), wd_i 362 (by decide +kernel), wd_i 51 (by decide +kernel), wd_i 363 (by decide +kernel), by decide +kernel, by decide +kernel, by decide +kernel⟩
theorem ce_M_clearText : ce_V mk_M_clearText 0 := ⟨wd_i 772 (by decide +kernel), wd_i 773 (by decide +kernel), wd_i 57 (by decide +kernel), wd_i 774 (by decide +kernel), by decide +kernel, by decide +kernel, by decide +kernel⟩
theorem ce_F_load : ce_V mk_F_load 0 := ⟨wd_i 365 (by decide +kernel), wd_i 366 (by decide +kernel), wd_i 51 (by decide +kernel), wd_i 367 (by decide +kernel), by decide +kernel, by decide +kernel, by decide +kernel⟩
theorem ce_M_load : ce_V mk_M_load 0 := ⟨wd_i 776 (by decide +kernel), wd_i 777 (by decide +kernel), wd_i 57 (by decide +kernel), wd_i 778 (by decide +kernel), by decide +kernel, by decide +kernel, by decide +kernel⟩
theorem ce_F_moveTo : ce_V mk_F_moveTo 1 := ⟨wd_i 420 (by decide +kernel), wd_i 421 (by decide +kernel), wd_i 51 (by decide +kernel), wd_i 422 (by decide +kernel), by decide +kernel, by decide +kernel, by decide +kernel⟩
theorem ce_M_moveTo : ce_V mk_M_moveTo 1 := ⟨wd_i 809 (by decide +kernel), wd_i 810 (by decide +kernel), wd_i 57 (by decide +kernel), wd_i 811 (by decide +kernel), by decide +kernel, by decide +kernel, by decide +kernel⟩
theorem ce_F_addCommand : ce_V mk_F_addCommand 2 := ⟨wd_i 507 (by decide +kernel), wd_i 508 (by decide +kernel), wd_i 51 (by decide +kernel), wd_i 509 (by decide +kernel), by decide +kernel, by decide +kernel, by decide +kernel⟩
theorem ce_M_addCommand : ce_V mk_M_addCommand 2 := ⟨wd_i 847 (by decide +kernel), wd_i 848 (by decide +kernel), wd_i 57 (by decide +kernel), wd_i 849 (by decide +kernel), by decide +kernel, by decide +kernel, by decide +kernel⟩
theorem ce_F_run : ce_V mk_F_run 1 := ⟨wd_i 526 (by decide +kernel), wd_i 527 (by decide +kernel), wd_i 51 (by decide +kernel), wd_i 528 (by decide +kernel), by decide +kernel, by decide +kernel, by decide +kernel⟩
theorem ce_M_run : ce_V mk_M_run 1 := ⟨wd_i 855 (by decide +kernel), wd_i 856 (by decide +kernel), wd_i 57 (by decide +kernel), wd_i 857 (by decide +kernel), by decide +kernel, by decide +kernel, by decide +kernel⟩
theorem ce_F_home : ce_V mk_F_home 1 := ⟨wd_i 544 (by decide +kernel), wd_i 545 (by decide +kernel), wd_i 51 (by decide +kernel), wd_i 546 (by decide +kernel), by decide +kernel, by decide +kernel, by decide +kernel⟩
theorem ce_M_home : ce_V mk_M_home 1 := ⟨wd_i 859 (by decide +kernel), wd_i 860 (by decide +kernel), wd_i 57 (by decide +kernel), wd_i 861 (by decide +kernel), by decide +kernel, by decide +kernel, by decide +kernel⟩
theorem ce_F_check : ce_V mk_F_check 1 := ⟨wd_i 569 (by decide +kernel), wd_i 570 (by decide +kernel), wd_i 51 (by decide +kernel), wd_i 571 (by decide +kernel), by decide +kernel, by decide +kernel, by decide +kernel⟩
theorem ce_M_check : ce_V mk_M_check 1 := ⟨wd_i 876 (by decide +kernel), wd_i 877 (by decide +kernel), wd_i 57 (by decide +kernel), wd_i 878 (by decide +kernel), by decide +kernel, by decide +kernel, by decide +kernel⟩
theorem ce_F_correct : ce_V mk_F_correct 1 := ⟨wd_i 573 (by decide +kernel), wd_i 574 (by decide +kernel), wd_i 51 (by decide +kernel), wd_i 575 (by decide +kernel), by decide +kernel, by decide +kernel, by decide +kernel⟩
theorem ce_M_correct : ce_V mk_M_correct 1 := ⟨wd_i 880 (by decide +kernel), wd_i 881 (by decide +kernel), wd_i 57 (by decide +kernel), wd_i 882 (by decide +kernel), by decide +kernel, by decide +kernel, by decide +kernel⟩
theorem ce_F_keep : ce_V mk_F_keep 1 := ⟨wd_i 579 (by decide +kernel), wd_i 580 (by decide +kernel), wd_i 51 (by decide +kernel), wd_i 581 (by decide +kernel), by decide +kernel, by decide +kernel, by decide +kernel⟩
theorem ce_M_keep : ce_V mk_M_keep 1 := ⟨wd_i 886 (by decide +kernel), wd_i 887 (by decide +kernel), wd_i 57 (by decide +kernel), wd_i 888 (by decide +kernel), by decide +kernel, by decide +kernel, by decide +kernel⟩
theorem ce_F_back : ce_V mk_F_back 1 := ⟨wd_i 587 (by decide +kernel), wd_i 588 (by decide +kernel), wd_i 51 (by decide +kernel), wd_i 589 (by decide +kernel), by decide +kernel, by decide +kernel, by decide +kernel⟩
theorem ce_M_back : ce_V mk_M_back 1 := ⟨wd_i 893 (by decide +kernel), wd_i 894 (by decide +kernel), wd_i 57 (by decide +kernel), wd_i 895 (by decide +kernel), by decide +kernel, by decide +kernel, by decide +kernel⟩
theorem ce_F_undo : ce_V mk_F_undo 0 := ⟨wd_i 591 (by decide +kernel), wd_i 592 (by decide +kernel), wd_i 51 (by decide +kernel), wd_i 593 (by decide +kernel), by decide +kernel, by decide +kernel, by decide +kernel⟩
theorem ce_M_undo : ce_V mk_M_undo 0 := ⟨wd_i 700 (by decide +kernel), wd_i 701 (by decide +kernel), wd_i 57 (by decide +kernel), wd_i 702 (by decide +kernel), by decide +kernel, by decide +kernel, by decide +kernel⟩
theorem ce_F_count : ce_V mk_F_count 1 := ⟨wd_i 599 (by decide +kernel), wd_i 600 (by decide +kernel), wd_i 51 (by decide +kernel), wd_i 601 (by decide +kernel), by decide +kernel, by decide +kernel, by decide +kernel⟩
theorem ce_M_count : ce_V mk_M_count 1 := ⟨wd_i 897 (by decide +kernel), wd_i 898 (by decide +kernel), wd_i 57 (by decide +kernel), wd_i 899 (by decide +kernel), by decide +kernel, by decide +kernel, by decide +kernel⟩
theorem ce_F_account : ce_V mk_F_account 1 := ⟨wd_i 610 (by decide +kernel), wd_i 611 (by decide +kernel), wd_i 51 (by decide +kernel), wd_i 612 (by decide +kernel), by decide +kernel, by decide +kernel, by decide +kernel⟩
theorem ce_M_account : ce_V mk_M_account 1 := ⟨wd_i 901 (by decide +kernel), wd_i 902 (by decide +kernel), wd_i 57 (by decide +kernel), wd_i 903 (by decide +kernel), by decide +kernel, by decide +kernel, by decide +kernel⟩
theorem ce_F_loadAt : ce_V mk_F_loadAt 1 := ⟨wd_i 615 (by decide +kernel), wd_i 616 (by decide +kernel), wd_i 51 (by decide +kernel), wd_i 617 (by decide +kernel), by decide +kernel, by decide +kernel, by decide +kernel⟩
theorem ce_M_loadAt : ce_V mk_M_loadAt 1 := ⟨wd_i 905 (by decide +kernel), wd_i 906 (by decide +kernel), wd_i 57 (by decide +kernel), wd_i 907 (by decide +kernel), by decide +kernel, by decide +kernel, by decide +kernel⟩
theorem ce_F_errorAt : ce_V mk_F_errorAt 1 := ⟨wd_i 620 (by decide +kernel), wd_i 621 (by decide +kernel), wd_i 51 (by decide +kernel), wd_i 622 (by decide +kernel), by decide +kernel, by decide +kernel, by decide +kernel⟩
theorem ce_M_errorAt : ce_V mk_M_errorAt 1 := ⟨wd_i 909 (by decide +kernel), wd_i 910 (by decide +kernel), wd_i 57 (by decide +kernel), wd_i 911 (by decide +kernel), by decide +kernel, by decide +kernel, by decide +kernel⟩
theorem ce_F_command : ce_V mk_F_command 2 := ⟨wd_i 625 (by decide +kernel), wd_i 626 (by decide +kernel), wd_i 51 (by decide +kernel), wd_i 627 (by decide +kernel), by decide +kernel, by decide +kernel, by decide +kernel⟩
theorem ce_M_command : ce_V mk_M_command 2 := ⟨wd_i 913 (by decide +kernel), wd_i 914 (by decide +kernel), wd_i 57 (by decide +kernel), wd_i 915 (by decide +kernel), by decide +kernel, by decide +kernel, by decide +kernel⟩
theorem ce_F_flag : ce_V mk_F_flag 1 := ⟨wd_i 631 (by decide +kernel), wd_i 632 (by decide +kernel), wd_i 51 (by decide +kernel), wd_i 633 (by decide +kernel), by decide +kernel, by decide +kernel, by decide +kernel⟩
theorem ce_M_flag : ce_V mk_M_flag 1 := ⟨wd_i 917 (by decide +kernel), wd_i 918 (by decide +kernel), wd_i 57 (by decide +kernel), wd_i 919 (by decide +kernel), by decide +kernel, by decide +kernel, by decide +kernel⟩
theorem ce_F_why : ce_V mk_F_why 1 := ⟨wd_i 635 (by decide +kernel), wd_i 636 (by decide +kernel), wd_i 51 (by decide +kernel), wd_i 637 (by decide +kernel), by decide +kernel, by decide +kernel, by decide +kernel⟩
theorem ce_M_why : ce_V mk_M_why 1 := ⟨wd_i 921 (by decide +kernel), wd_i 922 (by decide +kernel), wd_i 57 (by decide +kernel), wd_i 923 (by decide +kernel), by decide +kernel, by decide +kernel, by decide +kernel⟩
theorem ce_F_losses : ce_V mk_F_losses 2 := ⟨wd_i 644 (by decide +kernel), wd_i 645 (by decide +kernel), wd_i 51 (by decide +kernel), wd_i 646 (by decide +kernel), by decide +kernel, by decide +kernel, by decide +kernel⟩
theorem ce_M_losses : ce_V mk_M_losses 2 := ⟨wd_i 925 (by decide +kernel), wd_i 926 (by decide +kernel), wd_i 57 (by decide +kernel), wd_i 927 (by decide +kernel), by decide +kernel, by decide +kernel, by decide +kernel⟩
theorem ce_F_fastest : ce_V mk_F_fastest 1 := ⟨wd_i 648 (by decide +kernel), wd_i 649 (by decide +kernel), wd_i 51 (by decide +kernel), wd_i 650 (by decide +kernel), by decide +kernel, by decide +kernel, by decide +kernel⟩
theorem ce_M_fastest : ce_V mk_M_fastest 1 := ⟨wd_i 929 (by decide +kernel), wd_i 930 (by decide +kernel), wd_i 57 (by decide +kernel), wd_i 931 (by decide +kernel), by decide +kernel, by decide +kernel, by decide +kernel⟩
theorem ce_F_counter : ce_V mk_F_counter 1 := ⟨wd_i 658 (by decide +kernel), wd_i 659 (by decide +kernel), wd_i 51 (by decide +kernel), wd_i 660 (by decide +kernel), by decide +kernel, by decide +kernel, by decide +kernel⟩
theorem ce_M_counter : ce_V mk_M_counter 1 := ⟨wd_i 937 (by decide +kernel), wd_i 938 (by decide +kernel), wd_i 57 (by decide +kernel), wd_i 939 (by decide +kernel), by decide +kernel, by decide +kernel, by decide +kernel⟩
theorem ml_L_9 : Cond.methodLink "FeedAxisLaw" 9 (mk_F_init).1 ∈ wd_all := wd_i 64 (by decide +kernel)
theorem ml_F_9 : Cond.methodLink "FeedAxis" 9 (mk_A_init).1 ∈ wd_all := wd_i 72 (by decide +kernel)
theorem ml_A_20 : Cond.methodLink "FeedAxis$Axis" 20 (mk_P_init).1 ∈ wd_all := wd_i 78 (by decide +kernel)
theorem ml_A_30 : Cond.methodLink "FeedAxis$Axis" 30 (mk_C_init).1 ∈ wd_all := wd_i 96 (by decide +kernel)
theorem ml_F_29 : Cond.methodLink "FeedAxis" 29 (mk_S_init).1 ∈ wd_all := wd_i 172 (by decide +kernel)
theorem ml_S_15 : Cond.methodLink "FeedAxis$Saved" 15 (mk_A_init).1 ∈ wd_all := wd_i 177 (by decide +kernel)
theorem ml_F_36 : Cond.methodLink "FeedAxis" 36 (mk_T_init).1 ∈ wd_all := wd_i 191 (by decide +kernel)
theorem ml_L_13 : Cond.methodLink "FeedAxisLaw" 13 (mk_F_setNumber).1 ∈ wd_all := wd_i 228 (by decide +kernel)
theorem ml_F_41 : Cond.methodLink "FeedAxis" 41 (mk_A_isNumberInRange).1 ∈ wd_all := wd_i 232 (by decide +kernel)
theorem ml_A_80 : Cond.methodLink "FeedAxis$Axis" 80 (mk_R_at).1 ∈ wd_all := wd_i 237 (by decide +kernel)
theorem ml_A_87 : Cond.methodLink "FeedAxis$Axis" 87 (mk_J_bitCount).1 ∈ wd_all := wd_i 242 (by decide +kernel)
theorem ml_F_46 : Cond.methodLink "FeedAxis" 46 (mk_A_number).1 ∈ wd_all := wd_i 249 (by decide +kernel)
theorem ml_F_50 : Cond.methodLink "FeedAxis" 50 (mk_S_push).1 ∈ wd_all := wd_i 253 (by decide +kernel)
theorem ml_S_23 : Cond.methodLink "FeedAxis$Saved" 23 (mk_S_rowAt).1 ∈ wd_all := wd_i 257 (by decide +kernel)
theorem ml_S_27 : Cond.methodLink "FeedAxis$Saved" 27 (mk_A_copyFrom).1 ∈ wd_all := wd_i 261 (by decide +kernel)
theorem ml_A_35 : Cond.methodLink "FeedAxis$Axis" 35 (mk_R_copy).1 ∈ wd_all := wd_i 265 (by decide +kernel)
theorem ml_R_7 : Cond.methodLink "FeedAxis$Rows" 7 (mk_J_min).1 ∈ wd_all := wd_i 268 (by decide +kernel)
theorem ml_A_41 : Cond.methodLink "FeedAxis$Axis" 41 (mk_P_copyFrom).1 ∈ wd_all := wd_i 274 (by decide +kernel)
theorem ml_P_22 : Cond.methodLink "FeedAxis$Points" 22 (mk_R_copy).1 ∈ wd_all := wd_i 278 (by decide +kernel)
theorem ml_A_45 : Cond.methodLink "FeedAxis$Axis" 45 (mk_C_copyFrom).1 ∈ wd_all := wd_i 279 (by decide +kernel)
theorem ml_C_20 : Cond.methodLink "FeedAxis$Commands" 20 (mk_R_copy).1 ∈ wd_all := wd_i 283 (by decide +kernel)
theorem ml_S_31 : Cond.methodLink "FeedAxis$Saved" 31 (mk_J_min).1 ∈ wd_all := wd_i 284 (by decide +kernel)
theorem ml_F_54 : Cond.methodLink "FeedAxis" 54 (mk_A_changeNumber).1 ∈ wd_all := wd_i 285 (by decide +kernel)
theorem ml_A_93 : Cond.methodLink "FeedAxis$Axis" 93 (mk_R_put).1 ∈ wd_all := wd_i 289 (by decide +kernel)
theorem ml_L_18 : Cond.methodLink "FeedAxisLaw" 18 (mk_F_setLoad).1 ∈ wd_all := wd_i 292 (by decide +kernel)
theorem ml_F_58 : Cond.methodLink "FeedAxis" 58 (mk_F_isPlace).1 ∈ wd_all := wd_i 296 (by decide +kernel)
theorem ml_F_66 : Cond.methodLink "FeedAxis" 66 (mk_F_setPoint).1 ∈ wd_all := wd_i 299 (by decide +kernel)
theorem ml_F_208 : Cond.methodLink "FeedAxis" 208 (mk_P_valueAt).1 ∈ wd_all := wd_i 303 (by decide +kernel)
theorem ml_P_28 : Cond.methodLink "FeedAxis$Points" 28 (mk_P_lastUpTo).1 ∈ wd_all := wd_i 307 (by decide +kernel)
theorem ml_P_32 : Cond.methodLink "FeedAxis$Points" 32 (mk_P_isAt).1 ∈ wd_all := wd_i 311 (by decide +kernel)
theorem ml_P_36 : Cond.methodLink "FeedAxis$Points" 36 (mk_R_at).1 ∈ wd_all := wd_i 315 (by decide +kernel)
theorem ml_F_212 : Cond.methodLink "FeedAxis" 212 (mk_P_remove).1 ∈ wd_all := wd_i 317 (by decide +kernel)
theorem ml_P_55 : Cond.methodLink "FeedAxis$Points" 55 (mk_R_closeGap).1 ∈ wd_all := wd_i 321 (by decide +kernel)
theorem ml_R_19 : Cond.methodLink "FeedAxis$Rows" 19 (mk_R_at).1 ∈ wd_all := wd_i 324 (by decide +kernel)
theorem ml_R_25 : Cond.methodLink "FeedAxis$Rows" 25 (mk_R_put).1 ∈ wd_all := wd_i 325 (by decide +kernel)
theorem ml_F_215 : Cond.methodLink "FeedAxis" 215 (mk_P_hasRoomFor).1 ∈ wd_all := wd_i 326 (by decide +kernel)
theorem ml_F_218 : Cond.methodLink "FeedAxis" 218 (mk_P_put).1 ∈ wd_all := wd_i 331 (by decide +kernel)
theorem ml_P_48 : Cond.methodLink "FeedAxis$Points" 48 (mk_R_openGap).1 ∈ wd_all := wd_i 335 (by decide +kernel)
theorem ml_P_52 : Cond.methodLink "FeedAxis$Points" 52 (mk_R_put).1 ∈ wd_all := wd_i 338 (by decide +kernel)
theorem ml_L_22 : Cond.methodLink "FeedAxisLaw" 22 (mk_F_setComb).1 ∈ wd_all := wd_i 339 (by decide +kernel)
theorem ml_L_26 : Cond.methodLink "FeedAxisLaw" 26 (mk_F_setFlag).1 ∈ wd_all := wd_i 343 (by decide +kernel)
theorem ml_F_77 : Cond.methodLink "FeedAxis" 77 (mk_A_placeFlag).1 ∈ wd_all := wd_i 347 (by decide +kernel)
theorem ml_L_30 : Cond.methodLink "FeedAxisLaw" 30 (mk_F_appendCharacter).1 ∈ wd_all := wd_i 351 (by decide +kernel)
theorem ml_F_80 : Cond.methodLink "FeedAxis" 80 (mk_T_append).1 ∈ wd_all := wd_i 355 (by decide +kernel)
theorem ml_T_25 : Cond.methodLink "FeedAxis$TableText" 25 (mk_R_put).1 ∈ wd_all := wd_i 359 (by decide +kernel)
theorem ml_L_35 : Cond.methodLink "FeedAxisLaw" 35 (mk_F_clearText).1 ∈ wd_all := wd_i 360 (by decide +kernel)
theorem ml_L_40 : Cond.methodLink "FeedAxisLaw" 40 (mk_F_load).1 ∈ wd_all := wd_i 364 (by decide +kernel)
theorem ml_F_87 : Cond.methodLink "FeedAxis" 87 (mk_A_copyFrom).1 ∈ wd_all := wd_i 368 (by decide +kernel)
theorem ml_F_90 : Cond.methodLink "FeedAxis" 90 (mk_T_readInto).1 ∈ wd_all := wd_i 369 (by decide +kernel)
theorem ml_T_31 : Cond.methodLink "FeedAxis$TableText" 31 (mk_T_skipSpaces).1 ∈ wd_all := wd_i 373 (by decide +kernel)
theorem ml_T_39 : Cond.methodLink "FeedAxis$TableText" 39 (mk_T_nextCharacter).1 ∈ wd_all := wd_i 377 (by decide +kernel)
theorem ml_T_87 : Cond.methodLink "FeedAxis$TableText" 87 (mk_R_at).1 ∈ wd_all := wd_i 381 (by decide +kernel)
theorem ml_T_34 : Cond.methodLink "FeedAxis$TableText" 34 (mk_T_readItem).1 ∈ wd_all := wd_i 382 (by decide +kernel)
theorem ml_T_43 : Cond.methodLink "FeedAxis$TableText" 43 (mk_T_readNumber).1 ∈ wd_all := wd_i 386 (by decide +kernel)
theorem ml_T_84 : Cond.methodLink "FeedAxis$TableText" 84 (mk_T_readDigits).1 ∈ wd_all := wd_i 390 (by decide +kernel)
theorem ml_T_91 : Cond.methodLink "FeedAxis$TableText" 91 (mk_T_isDigit).1 ∈ wd_all := wd_i 394 (by decide +kernel)
theorem ml_T_47 : Cond.methodLink "FeedAxis$TableText" 47 (mk_T_expect).1 ∈ wd_all := wd_i 397 (by decide +kernel)
theorem ml_T_51 : Cond.methodLink "FeedAxis$TableText" 51 (mk_T_leastSecond).1 ∈ wd_all := wd_i 401 (by decide +kernel)
theorem ml_T_55 : Cond.methodLink "FeedAxis$TableText" 55 (mk_T_greatestSecond).1 ∈ wd_all := wd_i 404 (by decide +kernel)
theorem ml_T_59 : Cond.methodLink "FeedAxis$TableText" 59 (mk_T_setItem).1 ∈ wd_all := wd_i 407 (by decide +kernel)
theorem ml_T_63 : Cond.methodLink "FeedAxis$TableText" 63 (mk_A_placeFlag).1 ∈ wd_all := wd_i 411 (by decide +kernel)
theorem ml_T_76 : Cond.methodLink "FeedAxis$TableText" 76 (mk_P_hasRoomFor).1 ∈ wd_all := wd_i 412 (by decide +kernel)
theorem ml_T_82 : Cond.methodLink "FeedAxis$TableText" 82 (mk_P_put).1 ∈ wd_all := wd_i 413 (by decide +kernel)
theorem ml_F_94 : Cond.methodLink "FeedAxis" 94 (mk_F_adoptTrial).1 ∈ wd_all := wd_i 415 (by decide +kernel)
theorem ml_L_44 : Cond.methodLink "FeedAxisLaw" 44 (mk_F_moveTo).1 ∈ wd_all := wd_i 419 (by decide +kernel)
theorem ml_F_97 : Cond.methodLink "FeedAxis" 97 (mk_A_refuses).1 ∈ wd_all := wd_i 423 (by decide +kernel)
theorem ml_A_122 : Cond.methodLink "FeedAxis$Axis" 122 (mk_A_target).1 ∈ wd_all := wd_i 427 (by decide +kernel)
theorem ml_A_119 : Cond.methodLink "FeedAxis$Axis" 119 (mk_P_valueBetween).1 ∈ wd_all := wd_i 431 (by decide +kernel)
theorem ml_P_42 : Cond.methodLink "FeedAxis$Points" 42 (mk_J_floorDiv).1 ∈ wd_all := wd_i 435 (by decide +kernel)
theorem ml_F_104 : Cond.methodLink "FeedAxis" 104 (mk_A_travel).1 ∈ wd_all := wd_i 439 (by decide +kernel)
theorem ml_A_129 : Cond.methodLink "FeedAxis$Axis" 129 (mk_A_refuses).1 ∈ wd_all := wd_i 443 (by decide +kernel)
theorem ml_A_132 : Cond.methodLink "FeedAxis$Axis" 132 (mk_A_microstepsTo).1 ∈ wd_all := wd_i 444 (by decide +kernel)
theorem ml_A_97 : Cond.methodLink "FeedAxis$Axis" 97 (mk_A_number).1 ∈ wd_all := wd_i 448 (by decide +kernel)
theorem ml_A_135 : Cond.methodLink "FeedAxis$Axis" 135 (mk_J_signum).1 ∈ wd_all := wd_i 449 (by decide +kernel)
theorem ml_A_138 : Cond.methodLink "FeedAxis$Axis" 138 (mk_J_abs).1 ∈ wd_all := wd_i 452 (by decide +kernel)
theorem ml_A_103 : Cond.methodLink "FeedAxis$Axis" 103 (mk_A_loadOn).1 ∈ wd_all := wd_i 455 (by decide +kernel)
theorem ml_A_116 : Cond.methodLink "FeedAxis$Axis" 116 (mk_P_valueUpTo).1 ∈ wd_all := wd_i 459 (by decide +kernel)
theorem ml_A_110 : Cond.methodLink "FeedAxis$Axis" 110 (mk_J_max).1 ∈ wd_all := wd_i 463 (by decide +kernel)
theorem ml_A_141 : Cond.methodLink "FeedAxis$Axis" 141 (mk_A_microstepsAlike).1 ∈ wd_all := wd_i 466 (by decide +kernel)
theorem ml_A_167 : Cond.methodLink "FeedAxis$Axis" 167 (mk_A_stalls).1 ∈ wd_all := wd_i 470 (by decide +kernel)
theorem ml_A_100 : Cond.methodLink "FeedAxis$Axis" 100 (mk_A_torqueAt).1 ∈ wd_all := wd_i 474 (by decide +kernel)
theorem ml_A_172 : Cond.methodLink "FeedAxis$Axis" 172 (mk_P_placeAbove).1 ∈ wd_all := wd_i 479 (by decide +kernel)
theorem ml_A_175 : Cond.methodLink "FeedAxis$Axis" 175 (mk_P_placeUpTo).1 ∈ wd_all := wd_i 484 (by decide +kernel)
theorem ml_A_144 : Cond.methodLink "FeedAxis$Axis" 144 (mk_J_min).1 ∈ wd_all := wd_i 489 (by decide +kernel)
theorem ml_A_147 : Cond.methodLink "FeedAxis$Axis" 147 (mk_A_makeMicrosteps).1 ∈ wd_all := wd_i 490 (by decide +kernel)
theorem ml_A_164 : Cond.methodLink "FeedAxis$Axis" 164 (mk_A_tally).1 ∈ wd_all := wd_i 494 (by decide +kernel)
theorem ml_A_178 : Cond.methodLink "FeedAxis$Axis" 178 (mk_A_slip).1 ∈ wd_all := wd_i 498 (by decide +kernel)
theorem ml_A_181 : Cond.methodLink "FeedAxis$Axis" 181 (mk_A_turnMotor).1 ∈ wd_all := wd_i 502 (by decide +kernel)
theorem ml_L_48 : Cond.methodLink "FeedAxisLaw" 48 (mk_F_addCommand).1 ∈ wd_all := wd_i 506 (by decide +kernel)
theorem ml_F_111 : Cond.methodLink "FeedAxis" 111 (mk_C_isFull).1 ∈ wd_all := wd_i 510 (by decide +kernel)
theorem ml_F_117 : Cond.methodLink "FeedAxis" 117 (mk_C_insert).1 ∈ wd_all := wd_i 514 (by decide +kernel)
theorem ml_C_30 : Cond.methodLink "FeedAxis$Commands" 30 (mk_C_priorityOf).1 ∈ wd_all := wd_i 518 (by decide +kernel)
theorem ml_C_26 : Cond.methodLink "FeedAxis$Commands" 26 (mk_R_at).1 ∈ wd_all := wd_i 522 (by decide +kernel)
theorem ml_C_34 : Cond.methodLink "FeedAxis$Commands" 34 (mk_R_openGap).1 ∈ wd_all := wd_i 523 (by decide +kernel)
theorem ml_C_38 : Cond.methodLink "FeedAxis$Commands" 38 (mk_R_put).1 ∈ wd_all := wd_i 524 (by decide +kernel)
theorem ml_L_52 : Cond.methodLink "FeedAxisLaw" 52 (mk_F_run).1 ∈ wd_all := wd_i 525 (by decide +kernel)
theorem ml_F_123 : Cond.methodLink "FeedAxis" 123 (mk_A_carryOutNext).1 ∈ wd_all := wd_i 529 (by decide +kernel)
theorem ml_A_157 : Cond.methodLink "FeedAxis$Axis" 157 (mk_C_takeNext).1 ∈ wd_all := wd_i 533 (by decide +kernel)
theorem ml_C_41 : Cond.methodLink "FeedAxis$Commands" 41 (mk_C_placeOf).1 ∈ wd_all := wd_i 537 (by decide +kernel)
theorem ml_C_44 : Cond.methodLink "FeedAxis$Commands" 44 (mk_R_closeGap).1 ∈ wd_all := wd_i 541 (by decide +kernel)
theorem ml_A_154 : Cond.methodLink "FeedAxis$Axis" 154 (mk_A_travel).1 ∈ wd_all := wd_i 542 (by decide +kernel)
theorem ml_L_56 : Cond.methodLink "FeedAxisLaw" 56 (mk_F_home).1 ∈ wd_all := wd_i 543 (by decide +kernel)
theorem ml_F_126 : Cond.methodLink "FeedAxis" 126 (mk_F_seekOnTrial).1 ∈ wd_all := wd_i 547 (by decide +kernel)
theorem ml_F_221 : Cond.methodLink "FeedAxis" 221 (mk_A_seek).1 ∈ wd_all := wd_i 551 (by decide +kernel)
theorem ml_A_161 : Cond.methodLink "FeedAxis$Axis" 161 (mk_A_ticksBeyond).1 ∈ wd_all := wd_i 555 (by decide +kernel)
theorem ml_F_129 : Cond.methodLink "FeedAxis" 129 (mk_A_counterDue).1 ∈ wd_all := wd_i 560 (by decide +kernel)
theorem ml_F_135 : Cond.methodLink "FeedAxis" 135 (mk_A_moveCounterAlone).1 ∈ wd_all := wd_i 564 (by decide +kernel)
theorem ml_L_60 : Cond.methodLink "FeedAxisLaw" 60 (mk_F_check).1 ∈ wd_all := wd_i 568 (by decide +kernel)
theorem ml_L_64 : Cond.methodLink "FeedAxisLaw" 64 (mk_F_correct).1 ∈ wd_all := wd_i 572 (by decide +kernel)
theorem ml_L_68 : Cond.methodLink "FeedAxisLaw" 68 (mk_F_keep).1 ∈ wd_all := wd_i 578 (by decide +kernel)
theorem ml_F_141 : Cond.methodLink "FeedAxis" 141 (mk_F_imageNumbered).1 ∈ wd_all := wd_i 582 (by decide +kernel)
theorem ml_L_72 : Cond.methodLink "FeedAxisLaw" 72 (mk_F_back).1 ∈ wd_all := wd_i 586 (by decide +kernel)
theorem ml_L_76 : Cond.methodLink "FeedAxisLaw" 76 (mk_F_undo).1 ∈ wd_all := wd_i 590 (by decide +kernel)
theorem ml_F_145 : Cond.methodLink "FeedAxis" 145 (mk_S_popInto).1 ∈ wd_all := wd_i 594 (by decide +kernel)
theorem ml_L_80 : Cond.methodLink "FeedAxisLaw" 80 (mk_F_count).1 ∈ wd_all := wd_i 598 (by decide +kernel)
theorem ml_F_150 : Cond.methodLink "FeedAxis" 150 (mk_A_isReading).1 ∈ wd_all := wd_i 602 (by decide +kernel)
theorem ml_F_153 : Cond.methodLink "FeedAxis" 153 (mk_A_reading).1 ∈ wd_all := wd_i 605 (by decide +kernel)
theorem ml_L_84 : Cond.methodLink "FeedAxisLaw" 84 (mk_F_account).1 ∈ wd_all := wd_i 609 (by decide +kernel)
theorem ml_F_160 : Cond.methodLink "FeedAxis" 160 (mk_R_at).1 ∈ wd_all := wd_i 613 (by decide +kernel)
theorem ml_L_88 : Cond.methodLink "FeedAxisLaw" 88 (mk_F_loadAt).1 ∈ wd_all := wd_i 614 (by decide +kernel)
theorem ml_F_166 : Cond.methodLink "FeedAxis" 166 (mk_A_loadOn).1 ∈ wd_all := wd_i 618 (by decide +kernel)
theorem ml_L_92 : Cond.methodLink "FeedAxisLaw" 92 (mk_F_errorAt).1 ∈ wd_all := wd_i 619 (by decide +kernel)
theorem ml_F_169 : Cond.methodLink "FeedAxis" 169 (mk_P_valueBetween).1 ∈ wd_all := wd_i 623 (by decide +kernel)
theorem ml_L_96 : Cond.methodLink "FeedAxisLaw" 96 (mk_F_command).1 ∈ wd_all := wd_i 624 (by decide +kernel)
theorem ml_F_175 : Cond.methodLink "FeedAxis" 175 (mk_C_placeOf).1 ∈ wd_all := wd_i 628 (by decide +kernel)
theorem ml_F_178 : Cond.methodLink "FeedAxis" 178 (mk_C_priorityOf).1 ∈ wd_all := wd_i 629 (by decide +kernel)
theorem ml_L_100 : Cond.methodLink "FeedAxisLaw" 100 (mk_F_flag).1 ∈ wd_all := wd_i 630 (by decide +kernel)
theorem ml_L_104 : Cond.methodLink "FeedAxisLaw" 104 (mk_F_why).1 ∈ wd_all := wd_i 634 (by decide +kernel)
theorem ml_F_187 : Cond.methodLink "FeedAxis" 187 (mk_A_target).1 ∈ wd_all := wd_i 638 (by decide +kernel)
theorem ml_F_190 : Cond.methodLink "FeedAxis" 190 (mk_A_reasonNotAt).1 ∈ wd_all := wd_i 639 (by decide +kernel)
theorem ml_L_108 : Cond.methodLink "FeedAxisLaw" 108 (mk_F_losses).1 ∈ wd_all := wd_i 643 (by decide +kernel)
theorem ml_L_112 : Cond.methodLink "FeedAxisLaw" 112 (mk_F_fastest).1 ∈ wd_all := wd_i 647 (by decide +kernel)
theorem ml_F_193 : Cond.methodLink "FeedAxis" 193 (mk_A_travelUnstalled).1 ∈ wd_all := wd_i 651 (by decide +kernel)
theorem ml_A_151 : Cond.methodLink "FeedAxis$Axis" 151 (mk_A_changeNumber).1 ∈ wd_all := wd_i 655 (by decide +kernel)
theorem ml_F_196 : Cond.methodLink "FeedAxis" 196 (mk_A_torqueAt).1 ∈ wd_all := wd_i 656 (by decide +kernel)
theorem ml_L_116 : Cond.methodLink "FeedAxisLaw" 116 (mk_F_counter).1 ∈ wd_all := wd_i 657 (by decide +kernel)
theorem ml_L_12 : Cond.methodLink "FeedAxisLaw" 12 (mk_M_init).1 ∈ wd_all := wd_i 663 (by decide +kernel)
theorem ml_L_79 : Cond.methodLink "FeedAxisLaw" 79 (mk_M_undo).1 ∈ wd_all := wd_i 699 (by decide +kernel)
theorem ml_L_17 : Cond.methodLink "FeedAxisLaw" 17 (mk_M_setNumber).1 ∈ wd_all := wd_i 704 (by decide +kernel)
theorem ml_M_61 : Cond.methodLink "FeedAxisModel" 61 (mk_M_isNumber).1 ∈ wd_all := wd_i 708 (by decide +kernel)
theorem ml_M_31 : Cond.methodLink "FeedAxisModel" 31 (mk_M_in).1 ∈ wd_all := wd_i 711 (by decide +kernel)
theorem ml_M_47 : Cond.methodLink "FeedAxisModel" 47 (mk_M_notes).1 ∈ wd_all := wd_i 715 (by decide +kernel)
theorem ml_L_21 : Cond.methodLink "FeedAxisLaw" 21 (mk_M_setLoad).1 ∈ wd_all := wd_i 719 (by decide +kernel)
theorem ml_M_65 : Cond.methodLink "FeedAxisModel" 65 (mk_M_isPlace).1 ∈ wd_all := wd_i 723 (by decide +kernel)
theorem ml_M_69 : Cond.methodLink "FeedAxisModel" 69 (mk_M_sets).1 ∈ wd_all := wd_i 726 (by decide +kernel)
theorem ml_M_42 : Cond.methodLink "FeedAxisModel" 42 (mk_M_has).1 ∈ wd_all := wd_i 730 (by decide +kernel)
theorem ml_M_39 : Cond.methodLink "FeedAxisModel" 39 (mk_M_upTo).1 ∈ wd_all := wd_i 734 (by decide +kernel)
theorem ml_M_35 : Cond.methodLink "FeedAxisModel" 35 (mk_M_placeAt).1 ∈ wd_all := wd_i 738 (by decide +kernel)
theorem ml_M_50 : Cond.methodLink "FeedAxisModel" 50 (mk_M_valueAt).1 ∈ wd_all := wd_i 743 (by decide +kernel)
theorem ml_M_53 : Cond.methodLink "FeedAxisModel" 53 (mk_M_removes).1 ∈ wd_all := wd_i 747 (by decide +kernel)
theorem ml_M_57 : Cond.methodLink "FeedAxisModel" 57 (mk_M_puts).1 ∈ wd_all := wd_i 751 (by decide +kernel)
theorem ml_L_25 : Cond.methodLink "FeedAxisLaw" 25 (mk_M_setComb).1 ∈ wd_all := wd_i 755 (by decide +kernel)
theorem ml_L_29 : Cond.methodLink "FeedAxisLaw" 29 (mk_M_setFlag).1 ∈ wd_all := wd_i 759 (by decide +kernel)
theorem ml_M_73 : Cond.methodLink "FeedAxisModel" 73 (mk_M_flags).1 ∈ wd_all := wd_i 763 (by decide +kernel)
theorem ml_L_34 : Cond.methodLink "FeedAxisLaw" 34 (mk_M_appendCharacter).1 ∈ wd_all := wd_i 767 (by decide +kernel)
theorem ml_L_39 : Cond.methodLink "FeedAxisLaw" 39 (mk_M_clearText).1 ∈ wd_all := wd_i 771 (by decide +kernel)
theorem ml_L_43 : Cond.methodLink "FeedAxisLaw" 43 (mk_M_load).1 ∈ wd_all := wd_i 775 (by decide +kernel)
theorem ml_M_99 : Cond.methodLink "FeedAxisModel" 99 (mk_M_putAside).1 ∈ wd_all := wd_i 779 (by decide +kernel)
theorem ml_M_82 : Cond.methodLink "FeedAxisModel" 82 (mk_M_here).1 ∈ wd_all := wd_i 783 (by decide +kernel)
theorem ml_M_102 : Cond.methodLink "FeedAxisModel" 102 (mk_M_readsItem).1 ∈ wd_all := wd_i 787 (by decide +kernel)
theorem ml_M_96 : Cond.methodLink "FeedAxisModel" 96 (mk_M_readsPoint).1 ∈ wd_all := wd_i 791 (by decide +kernel)
theorem ml_M_92 : Cond.methodLink "FeedAxisModel" 92 (mk_M_reads).1 ∈ wd_all := wd_i 795 (by decide +kernel)
theorem ml_M_86 : Cond.methodLink "FeedAxisModel" 86 (mk_M_takes).1 ∈ wd_all := wd_i 799 (by decide +kernel)
theorem ml_M_106 : Cond.methodLink "FeedAxisModel" 106 (mk_M_swaps).1 ∈ wd_all := wd_i 803 (by decide +kernel)
theorem ml_L_47 : Cond.methodLink "FeedAxisLaw" 47 (mk_M_moveTo).1 ∈ wd_all := wd_i 808 (by decide +kernel)
theorem ml_M_129 : Cond.methodLink "FeedAxisModel" 129 (mk_M_aimOf).1 ∈ wd_all := wd_i 812 (by decide +kernel)
theorem ml_M_126 : Cond.methodLink "FeedAxisModel" 126 (mk_M_errorOf).1 ∈ wd_all := wd_i 816 (by decide +kernel)
theorem ml_M_110 : Cond.methodLink "FeedAxisModel" 110 (mk_M_down).1 ∈ wd_all := wd_i 820 (by decide +kernel)
theorem ml_M_136 : Cond.methodLink "FeedAxisModel" 136 (mk_M_moves).1 ∈ wd_all := wd_i 823 (by decide +kernel)
theorem ml_M_120 : Cond.methodLink "FeedAxisModel" 120 (mk_M_size).1 ∈ wd_all := wd_i 827 (by decide +kernel)
theorem ml_M_132 : Cond.methodLink "FeedAxisModel" 132 (mk_M_microstep).1 ∈ wd_all := wd_i 830 (by decide +kernel)
theorem ml_M_113 : Cond.methodLink "FeedAxisModel" 113 (mk_M_torque).1 ∈ wd_all := wd_i 834 (by decide +kernel)
theorem ml_M_116 : Cond.methodLink "FeedAxisModel" 116 (mk_M_loadOf).1 ∈ wd_all := wd_i 838 (by decide +kernel)
theorem ml_M_123 : Cond.methodLink "FeedAxisModel" 123 (mk_M_follows).1 ∈ wd_all := wd_i 842 (by decide +kernel)
theorem ml_L_51 : Cond.methodLink "FeedAxisLaw" 51 (mk_M_addCommand).1 ∈ wd_all := wd_i 846 (by decide +kernel)
theorem ml_M_139 : Cond.methodLink "FeedAxisModel" 139 (mk_M_commandOf).1 ∈ wd_all := wd_i 850 (by decide +kernel)
theorem ml_L_55 : Cond.methodLink "FeedAxisLaw" 55 (mk_M_run).1 ∈ wd_all := wd_i 854 (by decide +kernel)
theorem ml_L_59 : Cond.methodLink "FeedAxisLaw" 59 (mk_M_home).1 ∈ wd_all := wd_i 858 (by decide +kernel)
theorem ml_M_146 : Cond.methodLink "FeedAxisModel" 146 (mk_M_reaches).1 ∈ wd_all := wd_i 862 (by decide +kernel)
theorem ml_M_142 : Cond.methodLink "FeedAxisModel" 142 (mk_M_seeks).1 ∈ wd_all := wd_i 866 (by decide +kernel)
theorem ml_M_149 : Cond.methodLink "FeedAxisModel" 149 (mk_M_due).1 ∈ wd_all := wd_i 871 (by decide +kernel)
theorem ml_L_63 : Cond.methodLink "FeedAxisLaw" 63 (mk_M_check).1 ∈ wd_all := wd_i 875 (by decide +kernel)
theorem ml_L_67 : Cond.methodLink "FeedAxisLaw" 67 (mk_M_correct).1 ∈ wd_all := wd_i 879 (by decide +kernel)
theorem ml_L_71 : Cond.methodLink "FeedAxisLaw" 71 (mk_M_keep).1 ∈ wd_all := wd_i 885 (by decide +kernel)
theorem ml_M_154 : Cond.methodLink "FeedAxisModel" 154 (mk_M_isImage).1 ∈ wd_all := wd_i 889 (by decide +kernel)
theorem ml_L_75 : Cond.methodLink "FeedAxisLaw" 75 (mk_M_back).1 ∈ wd_all := wd_i 892 (by decide +kernel)
theorem ml_L_83 : Cond.methodLink "FeedAxisLaw" 83 (mk_M_count).1 ∈ wd_all := wd_i 896 (by decide +kernel)
theorem ml_L_87 : Cond.methodLink "FeedAxisLaw" 87 (mk_M_account).1 ∈ wd_all := wd_i 900 (by decide +kernel)
theorem ml_L_91 : Cond.methodLink "FeedAxisLaw" 91 (mk_M_loadAt).1 ∈ wd_all := wd_i 904 (by decide +kernel)
theorem ml_L_95 : Cond.methodLink "FeedAxisLaw" 95 (mk_M_errorAt).1 ∈ wd_all := wd_i 908 (by decide +kernel)
theorem ml_L_99 : Cond.methodLink "FeedAxisLaw" 99 (mk_M_command).1 ∈ wd_all := wd_i 912 (by decide +kernel)
theorem ml_L_103 : Cond.methodLink "FeedAxisLaw" 103 (mk_M_flag).1 ∈ wd_all := wd_i 916 (by decide +kernel)
theorem ml_L_107 : Cond.methodLink "FeedAxisLaw" 107 (mk_M_why).1 ∈ wd_all := wd_i 920 (by decide +kernel)
theorem ml_L_111 : Cond.methodLink "FeedAxisLaw" 111 (mk_M_losses).1 ∈ wd_all := wd_i 924 (by decide +kernel)
theorem ml_L_115 : Cond.methodLink "FeedAxisLaw" 115 (mk_M_fastest).1 ∈ wd_all := wd_i 928 (by decide +kernel)
theorem ml_M_160 : Cond.methodLink "FeedAxisModel" 160 (mk_M_stallsAt).1 ∈ wd_all := wd_i 932 (by decide +kernel)
theorem ml_L_119 : Cond.methodLink "FeedAxisLaw" 119 (mk_M_counter).1 ∈ wd_all := wd_i 936 (by decide +kernel)
theorem lf_P_11 : lf_P "FeedAxis$Points" 11 2 0 := ⟨_, rfl, by decide, wd_i 82 (by decide +kernel)⟩
theorem lr_P_11 : lr_P "FeedAxis$Points" 11 2 0 := ⟨_, rfl, by decide, wd_i 82 (by decide +kernel), rfl, rfl, _, (by decide +kernel : _ = some (tyX2 0)), fun _ => ⟨rfl, rfl⟩⟩
theorem lf_P_15 : lf_P "FeedAxis$Points" 15 2 1 := ⟨_, rfl, by decide, wd_i 83 (by decide +kernel)⟩
theorem lr_P_15 : lr_P "FeedAxis$Points" 15 2 1 := ⟨_, rfl, by decide, wd_i 83 (by decide +kernel), rfl, rfl, _, (by decide +kernel : _ = some (tyX2 1)), fun _ => ⟨rfl, rfl⟩⟩
theorem lf_P_18 : lf_P "FeedAxis$Points" 18 2 2 := ⟨_, rfl, by decide, wd_i 84 (by decide +kernel)⟩
theorem lp_P_18 : lp_P "FeedAxis$Points" 18 2 2 false := ⟨_, rfl, by decide, wd_i 84 (by decide +kernel), rfl, rfl⟩
theorem lf_A_106 : lf_P "FeedAxis$Axis" 106 2 2 := ⟨_, rfl, by decide, wd_i 85 (by decide +kernel)⟩
theorem lp_A_106 : lp_P "FeedAxis$Axis" 106 2 2 false := ⟨_, rfl, by decide, wd_i 85 (by decide +kernel), rfl, rfl⟩
theorem lf_C_9 : lf_P "FeedAxis$Commands" 9 1 0 := ⟨_, rfl, by decide, wd_i 100 (by decide +kernel)⟩
theorem lr_C_9 : lr_P "FeedAxis$Commands" 9 1 0 := ⟨_, rfl, by decide, wd_i 100 (by decide +kernel), rfl, rfl, _, (by decide +kernel : _ = some (tyX1 0)), fun _ => ⟨rfl, rfl⟩⟩
theorem lf_C_13 : lf_P "FeedAxis$Commands" 13 1 1 := ⟨_, rfl, by decide, wd_i 101 (by decide +kernel)⟩
theorem lr_C_13 : lr_P "FeedAxis$Commands" 13 1 1 := ⟨_, rfl, by decide, wd_i 101 (by decide +kernel), rfl, rfl, _, (by decide +kernel : _ = some (tyX1 1)), fun _ => ⟨rfl, rfl⟩⟩
theorem lf_C_16 : lf_P "FeedAxis$Commands" 16 1 2 := ⟨_, rfl, by decide, wd_i 102 (by decide +kernel)⟩
theorem lp_C_16 : lp_P "FeedAxis$Commands" 16 1 2 false := ⟨_, rfl, by decide, wd_i 102 (by decide +kernel), rfl, rfl⟩
theorem lf_A_109 : lf_P "FeedAxis$Axis" 109 1 2 := ⟨_, rfl, by decide, wd_i 103 (by decide +kernel)⟩
theorem lp_A_109 : lp_P "FeedAxis$Axis" 109 1 2 false := ⟨_, rfl, by decide, wd_i 103 (by decide +kernel), rfl, rfl⟩
theorem lf_F_120 : lf_P "FeedAxis" 120 1 2 := ⟨_, rfl, by decide, wd_i 104 (by decide +kernel)⟩
theorem lp_F_120 : lp_P "FeedAxis" 120 1 2 false := ⟨_, rfl, by decide, wd_i 104 (by decide +kernel), rfl, rfl⟩
theorem lf_A_9 : lf_P "FeedAxis$Axis" 9 0 0 := ⟨_, rfl, by decide, wd_i 112 (by decide +kernel)⟩
theorem lr_A_9 : lr_P "FeedAxis$Axis" 9 0 0 := ⟨_, rfl, by decide, wd_i 112 (by decide +kernel), rfl, rfl, _, (by decide +kernel : _ = some (tyX0 0)), fun _ => ⟨rfl, rfl⟩⟩
theorem lf_A_15 : lf_P "FeedAxis$Axis" 15 0 1 := ⟨_, rfl, by decide, wd_i 113 (by decide +kernel)⟩
theorem lr_A_15 : lr_P "FeedAxis$Axis" 15 0 1 := ⟨_, rfl, by decide, wd_i 113 (by decide +kernel), rfl, rfl, _, (by decide +kernel : _ = some (tyX0 1)), fun _ => ⟨rfl, rfl⟩⟩
theorem lf_F_156 : lf_P "FeedAxis" 156 0 1 := ⟨_, rfl, by decide, wd_i 114 (by decide +kernel)⟩
theorem lf_A_21 : lf_P "FeedAxis$Axis" 21 0 2 := ⟨_, rfl, by decide, wd_i 115 (by decide +kernel)⟩
theorem lr_A_21 : lr_P "FeedAxis$Axis" 21 0 2 := ⟨_, rfl, by decide, wd_i 115 (by decide +kernel), rfl, rfl, _, (by decide +kernel : _ = some (tyX0 2)), fun _ => ⟨rfl, rfl⟩⟩
theorem lf_F_62 : lf_P "FeedAxis" 62 0 2 := ⟨_, rfl, by decide, wd_i 116 (by decide +kernel)⟩
theorem lf_T_69 : lf_P "FeedAxis$TableText" 69 0 2 := ⟨_, rfl, by decide, wd_i 117 (by decide +kernel)⟩
theorem lf_A_25 : lf_P "FeedAxis$Axis" 25 0 3 := ⟨_, rfl, by decide, wd_i 118 (by decide +kernel)⟩
theorem lr_A_25 : lr_P "FeedAxis$Axis" 25 0 3 := ⟨_, rfl, by decide, wd_i 118 (by decide +kernel), rfl, rfl, _, (by decide +kernel : _ = some (tyX0 3)), fun _ => ⟨rfl, rfl⟩⟩
theorem lf_F_70 : lf_P "FeedAxis" 70 0 3 := ⟨_, rfl, by decide, wd_i 119 (by decide +kernel)⟩
theorem lf_T_73 : lf_P "FeedAxis$TableText" 73 0 3 := ⟨_, rfl, by decide, wd_i 120 (by decide +kernel)⟩
theorem lf_A_31 : lf_P "FeedAxis$Axis" 31 0 4 := ⟨_, rfl, by decide, wd_i 121 (by decide +kernel)⟩
theorem lr_A_31 : lr_P "FeedAxis$Axis" 31 0 4 := ⟨_, rfl, by decide, wd_i 121 (by decide +kernel), rfl, rfl, _, (by decide +kernel : _ = some (tyX0 4)), fun _ => ⟨rfl, rfl⟩⟩
theorem lf_F_107 : lf_P "FeedAxis" 107 0 4 := ⟨_, rfl, by decide, wd_i 122 (by decide +kernel)⟩
theorem lf_A_48 : lf_P "FeedAxis$Axis" 48 0 5 := ⟨_, rfl, by decide, wd_i 123 (by decide +kernel)⟩
theorem lp_A_48 : lp_P "FeedAxis$Axis" 48 0 5 true := ⟨_, rfl, by decide, wd_i 123 (by decide +kernel), rfl, rfl⟩
theorem lf_F_73 : lf_P "FeedAxis" 73 0 5 := ⟨_, rfl, by decide, wd_i 124 (by decide +kernel)⟩
theorem lp_F_73 : lp_P "FeedAxis" 73 0 5 true := ⟨_, rfl, by decide, wd_i 124 (by decide +kernel), rfl, rfl⟩
theorem lf_A_52 : lf_P "FeedAxis$Axis" 52 0 6 := ⟨_, rfl, by decide, wd_i 125 (by decide +kernel)⟩
theorem lp_A_52 : lp_P "FeedAxis$Axis" 52 0 6 false := ⟨_, rfl, by decide, wd_i 125 (by decide +kernel), rfl, rfl⟩
theorem lf_F_181 : lf_P "FeedAxis" 181 0 6 := ⟨_, rfl, by decide, wd_i 126 (by decide +kernel)⟩
theorem lp_F_181 : lp_P "FeedAxis" 181 0 6 false := ⟨_, rfl, by decide, wd_i 126 (by decide +kernel), rfl, rfl⟩
theorem lf_A_56 : lf_P "FeedAxis$Axis" 56 0 7 := ⟨_, rfl, by decide, wd_i 127 (by decide +kernel)⟩
theorem lp_A_56 : lp_P "FeedAxis$Axis" 56 0 7 false := ⟨_, rfl, by decide, wd_i 127 (by decide +kernel), rfl, rfl⟩
theorem lf_F_184 : lf_P "FeedAxis" 184 0 7 := ⟨_, rfl, by decide, wd_i 128 (by decide +kernel)⟩
theorem lp_F_184 : lp_P "FeedAxis" 184 0 7 false := ⟨_, rfl, by decide, wd_i 128 (by decide +kernel), rfl, rfl⟩
theorem lf_A_59 : lf_P "FeedAxis$Axis" 59 0 8 := ⟨_, rfl, by decide, wd_i 129 (by decide +kernel)⟩
theorem lp_A_59 : lp_P "FeedAxis$Axis" 59 0 8 false := ⟨_, rfl, by decide, wd_i 129 (by decide +kernel), rfl, rfl⟩
theorem lf_F_132 : lf_P "FeedAxis" 132 0 8 := ⟨_, rfl, by decide, wd_i 130 (by decide +kernel)⟩
theorem lp_F_132 : lp_P "FeedAxis" 132 0 8 false := ⟨_, rfl, by decide, wd_i 130 (by decide +kernel), rfl, rfl⟩
theorem lf_A_62 : lf_P "FeedAxis$Axis" 62 0 9 := ⟨_, rfl, by decide, wd_i 131 (by decide +kernel)⟩
theorem lp_A_62 : lp_P "FeedAxis$Axis" 62 0 9 false := ⟨_, rfl, by decide, wd_i 131 (by decide +kernel), rfl, rfl⟩
theorem lf_F_199 : lf_P "FeedAxis" 199 0 9 := ⟨_, rfl, by decide, wd_i 132 (by decide +kernel)⟩
theorem lp_F_199 : lp_P "FeedAxis" 199 0 9 false := ⟨_, rfl, by decide, wd_i 132 (by decide +kernel), rfl, rfl⟩
theorem lf_A_65 : lf_P "FeedAxis$Axis" 65 0 10 := ⟨_, rfl, by decide, wd_i 133 (by decide +kernel)⟩
theorem lp_A_65 : lp_P "FeedAxis$Axis" 65 0 10 false := ⟨_, rfl, by decide, wd_i 133 (by decide +kernel), rfl, rfl⟩
theorem lf_A_68 : lf_P "FeedAxis$Axis" 68 0 11 := ⟨_, rfl, by decide, wd_i 134 (by decide +kernel)⟩
theorem lp_A_68 : lp_P "FeedAxis$Axis" 68 0 11 false := ⟨_, rfl, by decide, wd_i 134 (by decide +kernel), rfl, rfl⟩
theorem lf_F_202 : lf_P "FeedAxis" 202 0 11 := ⟨_, rfl, by decide, wd_i 135 (by decide +kernel)⟩
theorem lp_F_202 : lp_P "FeedAxis" 202 0 11 false := ⟨_, rfl, by decide, wd_i 135 (by decide +kernel), rfl, rfl⟩
theorem lf_A_71 : lf_P "FeedAxis$Axis" 71 0 12 := ⟨_, rfl, by decide, wd_i 136 (by decide +kernel)⟩
theorem lp_A_71 : lp_P "FeedAxis$Axis" 71 0 12 false := ⟨_, rfl, by decide, wd_i 136 (by decide +kernel), rfl, rfl⟩
theorem lf_F_101 : lf_P "FeedAxis" 101 0 12 := ⟨_, rfl, by decide, wd_i 137 (by decide +kernel)⟩
theorem lp_F_101 : lp_P "FeedAxis" 101 0 12 false := ⟨_, rfl, by decide, wd_i 137 (by decide +kernel), rfl, rfl⟩
theorem lf_A_74 : lf_P "FeedAxis$Axis" 74 0 13 := ⟨_, rfl, by decide, wd_i 138 (by decide +kernel)⟩
theorem lp_A_74 : lp_P "FeedAxis$Axis" 74 0 13 false := ⟨_, rfl, by decide, wd_i 138 (by decide +kernel), rfl, rfl⟩
theorem lf_F_205 : lf_P "FeedAxis" 205 0 13 := ⟨_, rfl, by decide, wd_i 139 (by decide +kernel)⟩
theorem lp_F_205 : lp_P "FeedAxis" 205 0 13 false := ⟨_, rfl, by decide, wd_i 139 (by decide +kernel), rfl, rfl⟩
theorem lf_S_11 : lf_P "FeedAxis$Saved" 11 3 0 := ⟨_, rfl, by decide, wd_i 178 (by decide +kernel)⟩
theorem lr_S_11 : lr_P "FeedAxis$Saved" 11 3 0 := ⟨_, rfl, by decide, wd_i 178 (by decide +kernel), rfl, rfl, _, (by decide +kernel : _ = some (tyX4 0)), fun _ => ⟨rfl, rfl⟩⟩
theorem lf_S_16 : lf_P "FeedAxis$Saved" 16 3 1 := ⟨_, rfl, by decide, wd_i 179 (by decide +kernel)⟩
theorem lp_S_16 : lp_P "FeedAxis$Saved" 16 3 1 false := ⟨_, rfl, by decide, wd_i 179 (by decide +kernel), rfl, rfl⟩
theorem lf_S_20 : lf_P "FeedAxis$Saved" 20 3 2 := ⟨_, rfl, by decide, wd_i 180 (by decide +kernel)⟩
theorem lp_S_20 : lp_P "FeedAxis$Saved" 20 3 2 false := ⟨_, rfl, by decide, wd_i 180 (by decide +kernel), rfl, rfl⟩
theorem lf_F_149 : lf_P "FeedAxis" 149 3 2 := ⟨_, rfl, by decide, wd_i 181 (by decide +kernel)⟩
theorem lp_F_149 : lp_P "FeedAxis" 149 3 2 false := ⟨_, rfl, by decide, wd_i 181 (by decide +kernel), rfl, rfl⟩
theorem lf_T_11 : lf_P "FeedAxis$TableText" 11 4 0 := ⟨_, rfl, by decide, wd_i 195 (by decide +kernel)⟩
theorem lr_T_11 : lr_P "FeedAxis$TableText" 11 4 0 := ⟨_, rfl, by decide, wd_i 195 (by decide +kernel), rfl, rfl, _, (by decide +kernel : _ = some (tyX5 0)), fun _ => ⟨rfl, rfl⟩⟩
theorem lf_T_15 : lf_P "FeedAxis$TableText" 15 4 1 := ⟨_, rfl, by decide, wd_i 196 (by decide +kernel)⟩
theorem lp_T_15 : lp_P "FeedAxis$TableText" 15 4 1 false := ⟨_, rfl, by decide, wd_i 196 (by decide +kernel), rfl, rfl⟩
theorem lf_F_84 : lf_P "FeedAxis" 84 4 1 := ⟨_, rfl, by decide, wd_i 197 (by decide +kernel)⟩
theorem lp_F_84 : lp_P "FeedAxis" 84 4 1 false := ⟨_, rfl, by decide, wd_i 197 (by decide +kernel), rfl, rfl⟩
theorem lf_T_19 : lf_P "FeedAxis$TableText" 19 4 2 := ⟨_, rfl, by decide, wd_i 198 (by decide +kernel)⟩
theorem lp_T_19 : lp_P "FeedAxis$TableText" 19 4 2 false := ⟨_, rfl, by decide, wd_i 198 (by decide +kernel), rfl, rfl⟩
theorem lf_T_22 : lf_P "FeedAxis$TableText" 22 4 3 := ⟨_, rfl, by decide, wd_i 199 (by decide +kernel)⟩
theorem lp_T_22 : lp_P "FeedAxis$TableText" 22 4 3 false := ⟨_, rfl, by decide, wd_i 199 (by decide +kernel), rfl, rfl⟩
theorem lf_F_10 : lf_P "FeedAxis" 10 5 0 := ⟨_, rfl, by decide, wd_i 209 (by decide +kernel)⟩
theorem lr_F_10 : lr_P "FeedAxis" 10 5 0 := ⟨_, rfl, by decide, wd_i 209 (by decide +kernel), rfl, rfl, _, (by decide +kernel : _ = some (tyX6 0)), fun _ => ⟨rfl, rfl⟩⟩
theorem lf_F_16 : lf_P "FeedAxis" 16 5 1 := ⟨_, rfl, by decide, wd_i 210 (by decide +kernel)⟩
theorem lr_F_16 : lr_P "FeedAxis" 16 5 1 := ⟨_, rfl, by decide, wd_i 210 (by decide +kernel), rfl, rfl, _, (by decide +kernel : _ = some (tyX6 1)), fun _ => ⟨rfl, rfl⟩⟩
theorem lf_F_19 : lf_P "FeedAxis" 19 5 2 := ⟨_, rfl, by decide, wd_i 211 (by decide +kernel)⟩
theorem lr_F_19 : lr_P "FeedAxis" 19 5 2 := ⟨_, rfl, by decide, wd_i 211 (by decide +kernel), rfl, rfl, _, (by decide +kernel : _ = some (tyX6 2)), fun _ => ⟨rfl, rfl⟩⟩
theorem lf_F_23 : lf_P "FeedAxis" 23 5 3 := ⟨_, rfl, by decide, wd_i 212 (by decide +kernel)⟩
theorem lp_F_23 : lp_P "FeedAxis" 23 5 3 false := ⟨_, rfl, by decide, wd_i 212 (by decide +kernel), rfl, rfl⟩
theorem lf_F_30 : lf_P "FeedAxis" 30 5 4 := ⟨_, rfl, by decide, wd_i 213 (by decide +kernel)⟩
theorem lr_F_30 : lr_P "FeedAxis" 30 5 4 := ⟨_, rfl, by decide, wd_i 213 (by decide +kernel), rfl, rfl, _, (by decide +kernel : _ = some (tyX6 4)), fun _ => ⟨rfl, rfl⟩⟩
theorem lf_F_37 : lf_P "FeedAxis" 37 5 5 := ⟨_, rfl, by decide, wd_i 214 (by decide +kernel)⟩
theorem lr_F_37 : lr_P "FeedAxis" 37 5 5 := ⟨_, rfl, by decide, wd_i 214 (by decide +kernel), rfl, rfl, _, (by decide +kernel : _ = some (tyX6 5)), fun _ => ⟨rfl, rfl⟩⟩
theorem fs_A_77 : Cond.fieldLink "FeedAxis$Axis" 77 "FeedAxis$Axis" "LEAST" "[I" ∈ wd_all := wd_i 235 (by decide +kernel)
theorem fs_A_84 : Cond.fieldLink "FeedAxis$Axis" 84 "FeedAxis$Axis" "GREATEST" "[I" ∈ wd_all := wd_i 240 (by decide +kernel)
theorem lf_M_7 : lf_P "FeedAxisModel" 7 6 0 := ⟨_, rfl, by decide, wd_i 667 (by decide +kernel)⟩
theorem lr_M_7 : lr_P "FeedAxisModel" 7 6 0 := ⟨_, rfl, by decide, wd_i 667 (by decide +kernel), rfl, rfl, _, (by decide +kernel : _ = some (tyX7 0)), fun _ => ⟨rfl, rfl⟩⟩
theorem lf_M_13 : lf_P "FeedAxisModel" 13 6 1 := ⟨_, rfl, by decide, wd_i 668 (by decide +kernel)⟩
theorem lr_M_13 : lr_P "FeedAxisModel" 13 6 1 := ⟨_, rfl, by decide, wd_i 668 (by decide +kernel), rfl, rfl, _, (by decide +kernel : _ = some (tyX7 1)), fun _ => ⟨rfl, rfl⟩⟩
theorem lf_M_26 : lf_P "FeedAxisModel" 26 6 2 := ⟨_, rfl, by decide, wd_i 669 (by decide +kernel)⟩
theorem lp_M_26 : lp_P "FeedAxisModel" 26 6 2 false := ⟨_, rfl, by decide, wd_i 669 (by decide +kernel), rfl, rfl⟩
theorem lf_M_16 : lf_P "FeedAxisModel" 16 6 3 := ⟨_, rfl, by decide, wd_i 670 (by decide +kernel)⟩
theorem lr_M_16 : lr_P "FeedAxisModel" 16 6 3 := ⟨_, rfl, by decide, wd_i 670 (by decide +kernel), rfl, rfl, _, (by decide +kernel : _ = some (tyX7 3)), fun _ => ⟨rfl, rfl⟩⟩
theorem lf_M_157 : lf_P "FeedAxisModel" 157 6 4 := ⟨_, rfl, by decide, wd_i 671 (by decide +kernel)⟩
theorem lp_M_157 : lp_P "FeedAxisModel" 157 6 4 false := ⟨_, rfl, by decide, wd_i 671 (by decide +kernel), rfl, rfl⟩
theorem lf_M_19 : lf_P "FeedAxisModel" 19 6 5 := ⟨_, rfl, by decide, wd_i 672 (by decide +kernel)⟩
theorem lr_M_19 : lr_P "FeedAxisModel" 19 6 5 := ⟨_, rfl, by decide, wd_i 672 (by decide +kernel), rfl, rfl, _, (by decide +kernel : _ = some (tyX7 5)), fun _ => ⟨rfl, rfl⟩⟩
theorem lf_M_22 : lf_P "FeedAxisModel" 22 6 6 := ⟨_, rfl, by decide, wd_i 673 (by decide +kernel)⟩
theorem lr_M_22 : lr_P "FeedAxisModel" 22 6 6 := ⟨_, rfl, by decide, wd_i 673 (by decide +kernel), rfl, rfl, _, (by decide +kernel : _ = some (tyX7 6)), fun _ => ⟨rfl, rfl⟩⟩
theorem lf_M_76 : lf_P "FeedAxisModel" 76 6 7 := ⟨_, rfl, by decide, wd_i 674 (by decide +kernel)⟩
theorem lp_M_76 : lp_P "FeedAxisModel" 76 6 7 false := ⟨_, rfl, by decide, wd_i 674 (by decide +kernel), rfl, rfl⟩
theorem lf_M_79 : lf_P "FeedAxisModel" 79 6 8 := ⟨_, rfl, by decide, wd_i 675 (by decide +kernel)⟩
theorem lp_M_79 : lp_P "FeedAxisModel" 79 6 8 false := ⟨_, rfl, by decide, wd_i 675 (by decide +kernel), rfl, rfl⟩
theorem lf_M_89 : lf_P "FeedAxisModel" 89 6 9 := ⟨_, rfl, by decide, wd_i 676 (by decide +kernel)⟩
theorem lp_M_89 : lp_P "FeedAxisModel" 89 6 9 false := ⟨_, rfl, by decide, wd_i 676 (by decide +kernel), rfl, rfl⟩
theorem lk_J_265 : Cond.constant "java/lang/Integer" 265 (1431655765) ∈ wd_all := wd_i 245 (by decide +kernel)
theorem lk_J_266 : Cond.constant "java/lang/Integer" 266 (858993459) ∈ wd_all := wd_i 246 (by decide +kernel)
theorem lk_J_267 : Cond.constant "java/lang/Integer" 267 (252645135) ∈ wd_all := wd_i 247 (by decide +kernel)
theorem lk_F_45 : Cond.constant "FeedAxis" 45 (-1000001) ∈ wd_all := wd_i 248 (by decide +kernel)
theorem lk_F_100 : Cond.constant "FeedAxis" 100 (-1000002) ∈ wd_all := wd_i 316 (by decide +kernel)
theorem lk_F_83 : Cond.constant "FeedAxis" 83 (-1000003) ∈ wd_all := wd_i 330 (by decide +kernel)
theorem lk_T_38 : Cond.constant "FeedAxis$TableText" 38 (-2000000) ∈ wd_all := wd_i 414 (by decide +kernel)
theorem lk_A_171 : Cond.constant "FeedAxis$Axis" 171 (1000000000) ∈ wd_all := wd_i 478 (by decide +kernel)
theorem lk_P_41 : Cond.constant "FeedAxis$Points" 41 (1000000000) ∈ wd_all := wd_i 483 (by decide +kernel)
theorem lk_P_40 : Cond.constant "FeedAxis$Points" 40 (-1000000000) ∈ wd_all := wd_i 488 (by decide +kernel)
theorem lk_F_174 : Cond.constant "FeedAxis" 174 (-1000009) ∈ wd_all := wd_i 559 (by decide +kernel)
theorem lk_F_139 : Cond.constant "FeedAxis" 139 (-99999) ∈ wd_all := wd_i 576 (by decide +kernel)
theorem lk_F_140 : Cond.constant "FeedAxis" 140 (99999) ∈ wd_all := wd_i 577 (by decide +kernel)
theorem lk_M_30 : Cond.constant "FeedAxisModel" 30 (-1000002) ∈ wd_all := wd_i 703 (by decide +kernel)
theorem lk_M_64 : Cond.constant "FeedAxisModel" 64 (-1000001) ∈ wd_all := wd_i 714 (by decide +kernel)
theorem lk_M_46 : Cond.constant "FeedAxisModel" 46 (-1000003) ∈ wd_all := wd_i 742 (by decide +kernel)
theorem lk_M_109 : Cond.constant "FeedAxisModel" 109 (-2000000) ∈ wd_all := wd_i 807 (by decide +kernel)
theorem lk_M_145 : Cond.constant "FeedAxisModel" 145 (-1000009) ∈ wd_all := wd_i 870 (by decide +kernel)
theorem lk_M_152 : Cond.constant "FeedAxisModel" 152 (-99999) ∈ wd_all := wd_i 883 (by decide +kernel)
theorem lk_M_153 : Cond.constant "FeedAxisModel" 153 (99999) ∈ wd_all := wd_i 884 (by decide +kernel)
theorem nw_L_7 : nw_P "FeedAxisLaw" 7 5 6 [some none, some none, some none, none, some none, some none] := ⟨_, tyX6, rfl, rfl, wd_i 62 (by decide +kernel), wd_i 63 (by decide +kernel), wd_i 51 (by decide +kernel), tyX6_ok, fun k hk => by
  have hk9 : k < 6 := hk
  rcases (show k = 0 ∨ k = 1 ∨ k = 2 ∨ k = 3 ∨ k = 4 ∨ k = 5 by omega) with rfl | rfl | rfl | rfl | rfl | rfl <;> rfl⟩
theorem cq_F_7 : Cond.classLink "FeedAxis" 7 "FeedAxis$Axis" ∈ wd_all := wd_i 70 (by decide +kernel)
theorem nw_F_7 : nw_P "FeedAxis" 7 0 14 [some none, some none, some none, some none, some none, none, none, none, none, none, none, none, none, none] := ⟨_, tyX0, rfl, rfl, wd_i 70 (by decide +kernel), wd_i 71 (by decide +kernel), wd_i 52 (by decide +kernel), tyX0_ok, fun k hk => by
  have hk9 : k < 14 := hk
  rcases (show k = 0 ∨ k = 1 ∨ k = 2 ∨ k = 3 ∨ k = 4 ∨ k = 5 ∨ k = 6 ∨ k = 7 ∨ k = 8 ∨ k = 9 ∨ k = 10 ∨ k = 11 ∨ k = 12 ∨ k = 13 by omega) with rfl | rfl | rfl | rfl | rfl | rfl | rfl | rfl | rfl | rfl | rfl | rfl | rfl | rfl <;> rfl⟩
theorem nw_A_18 : nw_P "FeedAxis$Axis" 18 2 3 [some none, some none, none] := ⟨_, tyX2, rfl, rfl, wd_i 76 (by decide +kernel), wd_i 77 (by decide +kernel), wd_i 53 (by decide +kernel), tyX2_ok, fun k hk => by
  have hk9 : k < 3 := hk
  rcases (show k = 0 ∨ k = 1 ∨ k = 2 by omega) with rfl | rfl | rfl <;> rfl⟩
theorem nw_A_28 : nw_P "FeedAxis$Axis" 28 1 3 [some none, some none, none] := ⟨_, tyX1, rfl, rfl, wd_i 94 (by decide +kernel), wd_i 95 (by decide +kernel), wd_i 54 (by decide +kernel), tyX1_ok, fun k hk => by
  have hk9 : k < 3 := hk
  rcases (show k = 0 ∨ k = 1 ∨ k = 2 by omega) with rfl | rfl | rfl <;> rfl⟩
theorem nw_F_27 : nw_P "FeedAxis" 27 3 3 [some none, none, none] := ⟨_, tyX4, rfl, rfl, wd_i 170 (by decide +kernel), wd_i 171 (by decide +kernel), wd_i 55 (by decide +kernel), tyX4_ok, fun k hk => by
  have hk9 : k < 3 := hk
  rcases (show k = 0 ∨ k = 1 ∨ k = 2 by omega) with rfl | rfl | rfl <;> rfl⟩
theorem cq_S_9 : Cond.classLink "FeedAxis$Saved" 9 "FeedAxis$Axis" ∈ wd_all := wd_i 176 (by decide +kernel)
theorem nw_S_9 : nw_P "FeedAxis$Saved" 9 0 14 [some none, some none, some none, some none, some none, none, none, none, none, none, none, none, none, none] := ⟨_, tyX0, rfl, rfl, wd_i 176 (by decide +kernel), wd_i 71 (by decide +kernel), wd_i 52 (by decide +kernel), tyX0_ok, fun k hk => by
  have hk9 : k < 14 := hk
  rcases (show k = 0 ∨ k = 1 ∨ k = 2 ∨ k = 3 ∨ k = 4 ∨ k = 5 ∨ k = 6 ∨ k = 7 ∨ k = 8 ∨ k = 9 ∨ k = 10 ∨ k = 11 ∨ k = 12 ∨ k = 13 by omega) with rfl | rfl | rfl | rfl | rfl | rfl | rfl | rfl | rfl | rfl | rfl | rfl | rfl | rfl <;> rfl⟩
theorem nw_F_34 : nw_P "FeedAxis" 34 4 4 [some none, none, none, none] := ⟨_, tyX5, rfl, rfl, wd_i 189 (by decide +kernel), wd_i 190 (by decide +kernel), wd_i 56 (by decide +kernel), tyX5_ok, fun k hk => by
  have hk9 : k < 4 := hk
  rcases (show k = 0 ∨ k = 1 ∨ k = 2 ∨ k = 3 by omega) with rfl | rfl | rfl | rfl <;> rfl⟩
theorem nw_L_10 : nw_P "FeedAxisLaw" 10 6 10 [some none, some none, none, some none, none, some none, some none, none, none, none] := ⟨_, tyX7, rfl, rfl, wd_i 661 (by decide +kernel), wd_i 662 (by decide +kernel), wd_i 57 (by decide +kernel), tyX7_ok, fun k hk => by
  have hk9 : k < 10 := hk
  rcases (show k = 0 ∨ k = 1 ∨ k = 2 ∨ k = 3 ∨ k = 4 ∨ k = 5 ∨ k = 6 ∨ k = 7 ∨ k = 8 ∨ k = 9 by omega) with rfl | rfl | rfl | rfl | rfl | rfl | rfl | rfl | rfl | rfl <;> rfl⟩
theorem oi_A : Cond.methodLink "FeedAxis$Axis" 3 Lib.objectInit ∈ wd_all ∧ Cond.instanceMethod Lib.objectInit ∈ wd_all ∧ Cond.code Lib.objectInit ⟨#[0xb1]⟩ 1 none ∈ wd_all := ⟨wd_i 75 (by decide +kernel), wd_i 68 (by decide +kernel), wd_i 69 (by decide +kernel)⟩
theorem oi_S : Cond.methodLink "FeedAxis$Saved" 1 Lib.objectInit ∈ wd_all ∧ Cond.instanceMethod Lib.objectInit ∈ wd_all ∧ Cond.code Lib.objectInit ⟨#[0xb1]⟩ 1 none ∈ wd_all := ⟨wd_i 175 (by decide +kernel), wd_i 68 (by decide +kernel), wd_i 69 (by decide +kernel)⟩
theorem oi_C : Cond.methodLink "FeedAxis$Commands" 1 Lib.objectInit ∈ wd_all ∧ Cond.instanceMethod Lib.objectInit ∈ wd_all ∧ Cond.code Lib.objectInit ⟨#[0xb1]⟩ 1 none ∈ wd_all := ⟨wd_i 99 (by decide +kernel), wd_i 68 (by decide +kernel), wd_i 69 (by decide +kernel)⟩
theorem oi_F : Cond.methodLink "FeedAxis" 1 Lib.objectInit ∈ wd_all ∧ Cond.instanceMethod Lib.objectInit ∈ wd_all ∧ Cond.code Lib.objectInit ⟨#[0xb1]⟩ 1 none ∈ wd_all := ⟨wd_i 67 (by decide +kernel), wd_i 68 (by decide +kernel), wd_i 69 (by decide +kernel)⟩
theorem oi_P : Cond.methodLink "FeedAxis$Points" 3 Lib.objectInit ∈ wd_all ∧ Cond.instanceMethod Lib.objectInit ∈ wd_all ∧ Cond.code Lib.objectInit ⟨#[0xb1]⟩ 1 none ∈ wd_all := ⟨wd_i 81 (by decide +kernel), wd_i 68 (by decide +kernel), wd_i 69 (by decide +kernel)⟩
theorem oi_T : Cond.methodLink "FeedAxis$TableText" 3 Lib.objectInit ∈ wd_all ∧ Cond.instanceMethod Lib.objectInit ∈ wd_all ∧ Cond.code Lib.objectInit ⟨#[0xb1]⟩ 1 none ∈ wd_all := ⟨wd_i 194 (by decide +kernel), wd_i 68 (by decide +kernel), wd_i 69 (by decide +kernel)⟩
theorem oi_M : Cond.methodLink "FeedAxisModel" 1 Lib.objectInit ∈ wd_all ∧ Cond.instanceMethod Lib.objectInit ∈ wd_all ∧ Cond.code Lib.objectInit ⟨#[0xb1]⟩ 1 none ∈ wd_all := ⟨wd_i 666 (by decide +kernel), wd_i 68 (by decide +kernel), wd_i 69 (by decide +kernel)⟩
theorem ac_R : Cond.methodLink "FeedAxis$Rows" 13 arraycopyName ∈ wd_all ∧ Cond.native arraycopyName ∈ wd_all ∧ Cond.static arraycopyName ∈ wd_all ∧ Cond.initialized "java/lang/System" ∈ wd_all := ⟨wd_i 271 (by decide +kernel), wd_i 273 (by decide +kernel), wd_i 272 (by decide +kernel), wd_i 61 (by decide +kernel)⟩
theorem aw_int : Cond.arrayClass .int ∈ wd_all := wd_i 93 (by decide +kernel)
theorem aw_byte : Cond.arrayClass .byte ∈ wd_all := wd_i 698 (by decide +kernel)
end
section
/-! decode rows (by program: wip/gen/g03.py) -/
theorem dc_F_init_0 : decode prog_1_method_1_code 0 = .ok (.aload_n 0, 1) ∧ 0 + 1 = 1 := ⟨by decide +kernel, rfl⟩
theorem dc_F_init_1 : decode prog_1_method_1_code 1 = .ok (.invokespecial 1, 3) ∧ 1 + 3 = 4 := ⟨by decide +kernel, rfl⟩
theorem dc_F_init_4 : decode prog_1_method_1_code 4 = .ok (.aload_n 0, 1) ∧ 4 + 1 = 5 := ⟨by decide +kernel, rfl⟩
theorem dc_F_init_5 : decode prog_1_method_1_code 5 = .ok (.new 7, 3) ∧ 5 + 3 = 8 := ⟨by decide +kernel, rfl⟩
theorem dc_F_init_8 : decode prog_1_method_1_code 8 = .ok (.dup, 1) ∧ 8 + 1 = 9 := ⟨by decide +kernel, rfl⟩
theorem dc_F_init_9 : decode prog_1_method_1_code 9 = .ok (.invokespecial 9, 3) ∧ 9 + 3 = 12 := ⟨by decide +kernel, rfl⟩
theorem dc_F_init_12 : decode prog_1_method_1_code 12 = .ok (.putfield 10, 3) ∧ 12 + 3 = 15 := ⟨by decide +kernel, rfl⟩
theorem dc_F_init_15 : decode prog_1_method_1_code 15 = .ok (.aload_n 0, 1) ∧ 15 + 1 = 16 := ⟨by decide +kernel, rfl⟩
theorem dc_F_init_16 : decode prog_1_method_1_code 16 = .ok (.new 7, 3) ∧ 16 + 3 = 19 := ⟨by decide +kernel, rfl⟩
theorem dc_F_init_19 : decode prog_1_method_1_code 19 = .ok (.dup, 1) ∧ 19 + 1 = 20 := ⟨by decide +kernel, rfl⟩
theorem dc_F_init_20 : decode prog_1_method_1_code 20 = .ok (.invokespecial 9, 3) ∧ 20 + 3 = 23 := ⟨by decide +kernel, rfl⟩
theorem dc_F_init_23 : decode prog_1_method_1_code 23 = .ok (.putfield 16, 3) ∧ 23 + 3 = 26 := ⟨by decide +kernel, rfl⟩
theorem dc_F_init_26 : decode prog_1_method_1_code 26 = .ok (.aload_n 0, 1) ∧ 26 + 1 = 27 := ⟨by decide +kernel, rfl⟩
theorem dc_F_init_27 : decode prog_1_method_1_code 27 = .ok (.iconst 2, 1) ∧ 27 + 1 = 28 := ⟨by decide +kernel, rfl⟩
theorem dc_F_init_28 : decode prog_1_method_1_code 28 = .ok (.anewarray 7, 3) ∧ 28 + 3 = 31 := ⟨by decide +kernel, rfl⟩
theorem dc_F_init_31 : decode prog_1_method_1_code 31 = .ok (.putfield 19, 3) ∧ 31 + 3 = 34 := ⟨by decide +kernel, rfl⟩
theorem dc_F_init_34 : decode prog_1_method_1_code 34 = .ok (.iconst 0, 1) ∧ 34 + 1 = 35 := ⟨by decide +kernel, rfl⟩
theorem dc_F_init_35 : decode prog_1_method_1_code 35 = .ok (.istore_n 1, 1) ∧ 35 + 1 = 36 := ⟨by decide +kernel, rfl⟩
theorem dc_F_init_36 : decode prog_1_method_1_code 36 = .ok (.iload_n 1, 1) ∧ 36 + 1 = 37 := ⟨by decide +kernel, rfl⟩
theorem dc_F_init_37 : decode prog_1_method_1_code 37 = .ok (.iconst 2, 1) ∧ 37 + 1 = 38 := ⟨by decide +kernel, rfl⟩
theorem dc_F_init_38 : decode prog_1_method_1_code 38 = .ok (.if_icmp .ge 22, 3) ∧ ((38 : Nat) : Int) + (22) = ((60 : Nat) : Int) ∧ 38 + 3 = 41 := ⟨by decide +kernel, by decide, rfl⟩
theorem dc_F_init_41 : decode prog_1_method_1_code 41 = .ok (.aload_n 0, 1) ∧ 41 + 1 = 42 := ⟨by decide +kernel, rfl⟩
theorem dc_F_init_42 : decode prog_1_method_1_code 42 = .ok (.getfield 19, 3) ∧ 42 + 3 = 45 := ⟨by decide +kernel, rfl⟩
theorem dc_F_init_45 : decode prog_1_method_1_code 45 = .ok (.iload_n 1, 1) ∧ 45 + 1 = 46 := ⟨by decide +kernel, rfl⟩
theorem dc_F_init_46 : decode prog_1_method_1_code 46 = .ok (.new 7, 3) ∧ 46 + 3 = 49 := ⟨by decide +kernel, rfl⟩
theorem dc_F_init_49 : decode prog_1_method_1_code 49 = .ok (.dup, 1) ∧ 49 + 1 = 50 := ⟨by decide +kernel, rfl⟩
theorem dc_F_init_50 : decode prog_1_method_1_code 50 = .ok (.invokespecial 9, 3) ∧ 50 + 3 = 53 := ⟨by decide +kernel, rfl⟩
theorem dc_F_init_53 : decode prog_1_method_1_code 53 = .ok (.aastore, 1) ∧ 53 + 1 = 54 := ⟨by decide +kernel, rfl⟩
theorem dc_F_init_54 : decode prog_1_method_1_code 54 = .ok (.iinc 1 1, 3) ∧ 54 + 3 = 57 := ⟨by decide +kernel, rfl⟩
theorem dc_F_init_57 : decode prog_1_method_1_code 57 = .ok (.goto (-21), 3) ∧ ((57 : Nat) : Int) + (-21) = ((36 : Nat) : Int) := ⟨by decide +kernel, by decide⟩
theorem dc_F_init_60 : decode prog_1_method_1_code 60 = .ok (.aload_n 0, 1) ∧ 60 + 1 = 61 := ⟨by decide +kernel, rfl⟩
theorem dc_F_init_61 : decode prog_1_method_1_code 61 = .ok (.iconst 0, 1) ∧ 61 + 1 = 62 := ⟨by decide +kernel, rfl⟩
theorem dc_F_init_62 : decode prog_1_method_1_code 62 = .ok (.putfield 23, 3) ∧ 62 + 3 = 65 := ⟨by decide +kernel, rfl⟩
theorem dc_F_init_65 : decode prog_1_method_1_code 65 = .ok (.aload_n 0, 1) ∧ 65 + 1 = 66 := ⟨by decide +kernel, rfl⟩
theorem dc_F_init_66 : decode prog_1_method_1_code 66 = .ok (.new 27, 3) ∧ 66 + 3 = 69 := ⟨by decide +kernel, rfl⟩
theorem dc_F_init_69 : decode prog_1_method_1_code 69 = .ok (.dup, 1) ∧ 69 + 1 = 70 := ⟨by decide +kernel, rfl⟩
theorem dc_F_init_70 : decode prog_1_method_1_code 70 = .ok (.invokespecial 29, 3) ∧ 70 + 3 = 73 := ⟨by decide +kernel, rfl⟩
theorem dc_F_init_73 : decode prog_1_method_1_code 73 = .ok (.putfield 30, 3) ∧ 73 + 3 = 76 := ⟨by decide +kernel, rfl⟩
theorem dc_F_init_76 : decode prog_1_method_1_code 76 = .ok (.aload_n 0, 1) ∧ 76 + 1 = 77 := ⟨by decide +kernel, rfl⟩
theorem dc_F_init_77 : decode prog_1_method_1_code 77 = .ok (.new 34, 3) ∧ 77 + 3 = 80 := ⟨by decide +kernel, rfl⟩
theorem dc_F_init_80 : decode prog_1_method_1_code 80 = .ok (.dup, 1) ∧ 80 + 1 = 81 := ⟨by decide +kernel, rfl⟩
theorem dc_F_init_81 : decode prog_1_method_1_code 81 = .ok (.invokespecial 36, 3) ∧ 81 + 3 = 84 := ⟨by decide +kernel, rfl⟩
theorem dc_F_init_84 : decode prog_1_method_1_code 84 = .ok (.putfield 37, 3) ∧ 84 + 3 = 87 := ⟨by decide +kernel, rfl⟩
theorem dc_F_init_87 : decode prog_1_method_1_code 87 = .ok (.return_, 1) := by decide +kernel
theorem dc_A_init_0 : decode prog_2_method_1_code 0 = .ok (.aload_n 0, 1) ∧ 0 + 1 = 1 := ⟨by decide +kernel, rfl⟩
theorem dc_A_init_1 : decode prog_2_method_1_code 1 = .ok (.invokespecial 3, 3) ∧ 1 + 3 = 4 := ⟨by decide +kernel, rfl⟩
theorem dc_A_init_4 : decode prog_2_method_1_code 4 = .ok (.aload_n 0, 1) ∧ 4 + 1 = 5 := ⟨by decide +kernel, rfl⟩
theorem dc_A_init_5 : decode prog_2_method_1_code 5 = .ok (.bipush 6, 2) ∧ 5 + 2 = 7 := ⟨by decide +kernel, rfl⟩
theorem dc_A_init_7 : decode prog_2_method_1_code 7 = .ok (.newarray .int, 2) ∧ 7 + 2 = 9 := ⟨by decide +kernel, rfl⟩
theorem dc_A_init_9 : decode prog_2_method_1_code 9 = .ok (.dup, 1) ∧ 9 + 1 = 10 := ⟨by decide +kernel, rfl⟩
theorem dc_A_init_10 : decode prog_2_method_1_code 10 = .ok (.iconst 0, 1) ∧ 10 + 1 = 11 := ⟨by decide +kernel, rfl⟩
theorem dc_A_init_11 : decode prog_2_method_1_code 11 = .ok (.iconst 4, 1) ∧ 11 + 1 = 12 := ⟨by decide +kernel, rfl⟩
theorem dc_A_init_12 : decode prog_2_method_1_code 12 = .ok (.iastore, 1) ∧ 12 + 1 = 13 := ⟨by decide +kernel, rfl⟩
theorem dc_A_init_13 : decode prog_2_method_1_code 13 = .ok (.dup, 1) ∧ 13 + 1 = 14 := ⟨by decide +kernel, rfl⟩
theorem dc_A_init_14 : decode prog_2_method_1_code 14 = .ok (.iconst 1, 1) ∧ 14 + 1 = 15 := ⟨by decide +kernel, rfl⟩
theorem dc_A_init_15 : decode prog_2_method_1_code 15 = .ok (.bipush 100, 2) ∧ 15 + 2 = 17 := ⟨by decide +kernel, rfl⟩
theorem dc_A_init_17 : decode prog_2_method_1_code 17 = .ok (.iastore, 1) ∧ 17 + 1 = 18 := ⟨by decide +kernel, rfl⟩
theorem dc_A_init_18 : decode prog_2_method_1_code 18 = .ok (.dup, 1) ∧ 18 + 1 = 19 := ⟨by decide +kernel, rfl⟩
theorem dc_A_init_19 : decode prog_2_method_1_code 19 = .ok (.iconst 2, 1) ∧ 19 + 1 = 20 := ⟨by decide +kernel, rfl⟩
theorem dc_A_init_20 : decode prog_2_method_1_code 20 = .ok (.bipush 100, 2) ∧ 20 + 2 = 22 := ⟨by decide +kernel, rfl⟩
theorem dc_A_init_22 : decode prog_2_method_1_code 22 = .ok (.iastore, 1) ∧ 22 + 1 = 23 := ⟨by decide +kernel, rfl⟩
theorem dc_A_init_23 : decode prog_2_method_1_code 23 = .ok (.dup, 1) ∧ 23 + 1 = 24 := ⟨by decide +kernel, rfl⟩
theorem dc_A_init_24 : decode prog_2_method_1_code 24 = .ok (.iconst 3, 1) ∧ 24 + 1 = 25 := ⟨by decide +kernel, rfl⟩
theorem dc_A_init_25 : decode prog_2_method_1_code 25 = .ok (.bipush 10, 2) ∧ 25 + 2 = 27 := ⟨by decide +kernel, rfl⟩
theorem dc_A_init_27 : decode prog_2_method_1_code 27 = .ok (.iastore, 1) ∧ 27 + 1 = 28 := ⟨by decide +kernel, rfl⟩
theorem dc_A_init_28 : decode prog_2_method_1_code 28 = .ok (.dup, 1) ∧ 28 + 1 = 29 := ⟨by decide +kernel, rfl⟩
theorem dc_A_init_29 : decode prog_2_method_1_code 29 = .ok (.iconst 4, 1) ∧ 29 + 1 = 30 := ⟨by decide +kernel, rfl⟩
theorem dc_A_init_30 : decode prog_2_method_1_code 30 = .ok (.iconst 0, 1) ∧ 30 + 1 = 31 := ⟨by decide +kernel, rfl⟩
theorem dc_A_init_31 : decode prog_2_method_1_code 31 = .ok (.iastore, 1) ∧ 31 + 1 = 32 := ⟨by decide +kernel, rfl⟩
theorem dc_A_init_32 : decode prog_2_method_1_code 32 = .ok (.dup, 1) ∧ 32 + 1 = 33 := ⟨by decide +kernel, rfl⟩
theorem dc_A_init_33 : decode prog_2_method_1_code 33 = .ok (.iconst 5, 1) ∧ 33 + 1 = 34 := ⟨by decide +kernel, rfl⟩
theorem dc_A_init_34 : decode prog_2_method_1_code 34 = .ok (.iconst 0, 1) ∧ 34 + 1 = 35 := ⟨by decide +kernel, rfl⟩
theorem dc_A_init_35 : decode prog_2_method_1_code 35 = .ok (.iastore, 1) ∧ 35 + 1 = 36 := ⟨by decide +kernel, rfl⟩
theorem dc_A_init_36 : decode prog_2_method_1_code 36 = .ok (.putfield 9, 3) ∧ 36 + 3 = 39 := ⟨by decide +kernel, rfl⟩
theorem dc_A_init_39 : decode prog_2_method_1_code 39 = .ok (.aload_n 0, 1) ∧ 39 + 1 = 40 := ⟨by decide +kernel, rfl⟩
theorem dc_A_init_40 : decode prog_2_method_1_code 40 = .ok (.bipush 6, 2) ∧ 40 + 2 = 42 := ⟨by decide +kernel, rfl⟩
theorem dc_A_init_42 : decode prog_2_method_1_code 42 = .ok (.newarray .int, 2) ∧ 42 + 2 = 44 := ⟨by decide +kernel, rfl⟩
theorem dc_A_init_44 : decode prog_2_method_1_code 44 = .ok (.putfield 15, 3) ∧ 44 + 3 = 47 := ⟨by decide +kernel, rfl⟩
theorem dc_A_init_47 : decode prog_2_method_1_code 47 = .ok (.aload_n 0, 1) ∧ 47 + 1 = 48 := ⟨by decide +kernel, rfl⟩
theorem dc_A_init_48 : decode prog_2_method_1_code 48 = .ok (.new 18, 3) ∧ 48 + 3 = 51 := ⟨by decide +kernel, rfl⟩
theorem dc_A_init_51 : decode prog_2_method_1_code 51 = .ok (.dup, 1) ∧ 51 + 1 = 52 := ⟨by decide +kernel, rfl⟩
theorem dc_A_init_52 : decode prog_2_method_1_code 52 = .ok (.invokespecial 20, 3) ∧ 52 + 3 = 55 := ⟨by decide +kernel, rfl⟩
theorem dc_A_init_55 : decode prog_2_method_1_code 55 = .ok (.putfield 21, 3) ∧ 55 + 3 = 58 := ⟨by decide +kernel, rfl⟩
theorem dc_A_init_58 : decode prog_2_method_1_code 58 = .ok (.aload_n 0, 1) ∧ 58 + 1 = 59 := ⟨by decide +kernel, rfl⟩
theorem dc_A_init_59 : decode prog_2_method_1_code 59 = .ok (.new 18, 3) ∧ 59 + 3 = 62 := ⟨by decide +kernel, rfl⟩
theorem dc_A_init_62 : decode prog_2_method_1_code 62 = .ok (.dup, 1) ∧ 62 + 1 = 63 := ⟨by decide +kernel, rfl⟩
theorem dc_A_init_63 : decode prog_2_method_1_code 63 = .ok (.invokespecial 20, 3) ∧ 63 + 3 = 66 := ⟨by decide +kernel, rfl⟩
theorem dc_A_init_66 : decode prog_2_method_1_code 66 = .ok (.putfield 25, 3) ∧ 66 + 3 = 69 := ⟨by decide +kernel, rfl⟩
theorem dc_A_init_69 : decode prog_2_method_1_code 69 = .ok (.aload_n 0, 1) ∧ 69 + 1 = 70 := ⟨by decide +kernel, rfl⟩
theorem dc_A_init_70 : decode prog_2_method_1_code 70 = .ok (.new 28, 3) ∧ 70 + 3 = 73 := ⟨by decide +kernel, rfl⟩
theorem dc_A_init_73 : decode prog_2_method_1_code 73 = .ok (.dup, 1) ∧ 73 + 1 = 74 := ⟨by decide +kernel, rfl⟩
theorem dc_A_init_74 : decode prog_2_method_1_code 74 = .ok (.invokespecial 30, 3) ∧ 74 + 3 = 77 := ⟨by decide +kernel, rfl⟩
theorem dc_A_init_77 : decode prog_2_method_1_code 77 = .ok (.putfield 31, 3) ∧ 77 + 3 = 80 := ⟨by decide +kernel, rfl⟩
theorem dc_A_init_80 : decode prog_2_method_1_code 80 = .ok (.return_, 1) := by decide +kernel
theorem dc_P_init_0 : decode prog_4_method_1_code 0 = .ok (.aload_n 0, 1) ∧ 0 + 1 = 1 := ⟨by decide +kernel, rfl⟩
theorem dc_P_init_1 : decode prog_4_method_1_code 1 = .ok (.invokespecial 3, 3) ∧ 1 + 3 = 4 := ⟨by decide +kernel, rfl⟩
theorem dc_P_init_4 : decode prog_4_method_1_code 4 = .ok (.aload_n 0, 1) ∧ 4 + 1 = 5 := ⟨by decide +kernel, rfl⟩
theorem dc_P_init_5 : decode prog_4_method_1_code 5 = .ok (.bipush 10, 2) ∧ 5 + 2 = 7 := ⟨by decide +kernel, rfl⟩
theorem dc_P_init_7 : decode prog_4_method_1_code 7 = .ok (.newarray .int, 2) ∧ 7 + 2 = 9 := ⟨by decide +kernel, rfl⟩
theorem dc_P_init_9 : decode prog_4_method_1_code 9 = .ok (.putfield 11, 3) ∧ 9 + 3 = 12 := ⟨by decide +kernel, rfl⟩
theorem dc_P_init_12 : decode prog_4_method_1_code 12 = .ok (.aload_n 0, 1) ∧ 12 + 1 = 13 := ⟨by decide +kernel, rfl⟩
theorem dc_P_init_13 : decode prog_4_method_1_code 13 = .ok (.bipush 10, 2) ∧ 13 + 2 = 15 := ⟨by decide +kernel, rfl⟩
theorem dc_P_init_15 : decode prog_4_method_1_code 15 = .ok (.newarray .int, 2) ∧ 15 + 2 = 17 := ⟨by decide +kernel, rfl⟩
theorem dc_P_init_17 : decode prog_4_method_1_code 17 = .ok (.putfield 15, 3) ∧ 17 + 3 = 20 := ⟨by decide +kernel, rfl⟩
theorem dc_P_init_20 : decode prog_4_method_1_code 20 = .ok (.aload_n 0, 1) ∧ 20 + 1 = 21 := ⟨by decide +kernel, rfl⟩
theorem dc_P_init_21 : decode prog_4_method_1_code 21 = .ok (.iconst 0, 1) ∧ 21 + 1 = 22 := ⟨by decide +kernel, rfl⟩
theorem dc_P_init_22 : decode prog_4_method_1_code 22 = .ok (.putfield 18, 3) ∧ 22 + 3 = 25 := ⟨by decide +kernel, rfl⟩
theorem dc_P_init_25 : decode prog_4_method_1_code 25 = .ok (.return_, 1) := by decide +kernel
theorem dc_C_init_0 : decode prog_3_method_1_code 0 = .ok (.aload_n 0, 1) ∧ 0 + 1 = 1 := ⟨by decide +kernel, rfl⟩
theorem dc_C_init_1 : decode prog_3_method_1_code 1 = .ok (.invokespecial 1, 3) ∧ 1 + 3 = 4 := ⟨by decide +kernel, rfl⟩
theorem dc_C_init_4 : decode prog_3_method_1_code 4 = .ok (.aload_n 0, 1) ∧ 4 + 1 = 5 := ⟨by decide +kernel, rfl⟩
theorem dc_C_init_5 : decode prog_3_method_1_code 5 = .ok (.bipush 8, 2) ∧ 5 + 2 = 7 := ⟨by decide +kernel, rfl⟩
theorem dc_C_init_7 : decode prog_3_method_1_code 7 = .ok (.newarray .int, 2) ∧ 7 + 2 = 9 := ⟨by decide +kernel, rfl⟩
theorem dc_C_init_9 : decode prog_3_method_1_code 9 = .ok (.putfield 9, 3) ∧ 9 + 3 = 12 := ⟨by decide +kernel, rfl⟩
theorem dc_C_init_12 : decode prog_3_method_1_code 12 = .ok (.aload_n 0, 1) ∧ 12 + 1 = 13 := ⟨by decide +kernel, rfl⟩
theorem dc_C_init_13 : decode prog_3_method_1_code 13 = .ok (.bipush 8, 2) ∧ 13 + 2 = 15 := ⟨by decide +kernel, rfl⟩
theorem dc_C_init_15 : decode prog_3_method_1_code 15 = .ok (.newarray .int, 2) ∧ 15 + 2 = 17 := ⟨by decide +kernel, rfl⟩
theorem dc_C_init_17 : decode prog_3_method_1_code 17 = .ok (.putfield 13, 3) ∧ 17 + 3 = 20 := ⟨by decide +kernel, rfl⟩
theorem dc_C_init_20 : decode prog_3_method_1_code 20 = .ok (.aload_n 0, 1) ∧ 20 + 1 = 21 := ⟨by decide +kernel, rfl⟩
theorem dc_C_init_21 : decode prog_3_method_1_code 21 = .ok (.iconst 0, 1) ∧ 21 + 1 = 22 := ⟨by decide +kernel, rfl⟩
theorem dc_C_init_22 : decode prog_3_method_1_code 22 = .ok (.putfield 16, 3) ∧ 22 + 3 = 25 := ⟨by decide +kernel, rfl⟩
theorem dc_C_init_25 : decode prog_3_method_1_code 25 = .ok (.return_, 1) := by decide +kernel
theorem dc_S_init_0 : decode prog_6_method_1_code 0 = .ok (.aload_n 0, 1) ∧ 0 + 1 = 1 := ⟨by decide +kernel, rfl⟩
theorem dc_S_init_1 : decode prog_6_method_1_code 1 = .ok (.invokespecial 1, 3) ∧ 1 + 3 = 4 := ⟨by decide +kernel, rfl⟩
theorem dc_S_init_4 : decode prog_6_method_1_code 4 = .ok (.aload_n 0, 1) ∧ 4 + 1 = 5 := ⟨by decide +kernel, rfl⟩
theorem dc_S_init_5 : decode prog_6_method_1_code 5 = .ok (.bipush 6, 2) ∧ 5 + 2 = 7 := ⟨by decide +kernel, rfl⟩
theorem dc_S_init_7 : decode prog_6_method_1_code 7 = .ok (.anewarray 9, 3) ∧ 7 + 3 = 10 := ⟨by decide +kernel, rfl⟩
theorem dc_S_init_10 : decode prog_6_method_1_code 10 = .ok (.putfield 11, 3) ∧ 10 + 3 = 13 := ⟨by decide +kernel, rfl⟩
theorem dc_S_init_13 : decode prog_6_method_1_code 13 = .ok (.iconst 0, 1) ∧ 13 + 1 = 14 := ⟨by decide +kernel, rfl⟩
theorem dc_S_init_14 : decode prog_6_method_1_code 14 = .ok (.istore_n 1, 1) ∧ 14 + 1 = 15 := ⟨by decide +kernel, rfl⟩
theorem dc_S_init_15 : decode prog_6_method_1_code 15 = .ok (.iload_n 1, 1) ∧ 15 + 1 = 16 := ⟨by decide +kernel, rfl⟩
theorem dc_S_init_16 : decode prog_6_method_1_code 16 = .ok (.bipush 6, 2) ∧ 16 + 2 = 18 := ⟨by decide +kernel, rfl⟩
theorem dc_S_init_18 : decode prog_6_method_1_code 18 = .ok (.if_icmp .ge 22, 3) ∧ ((18 : Nat) : Int) + (22) = ((40 : Nat) : Int) ∧ 18 + 3 = 21 := ⟨by decide +kernel, by decide, rfl⟩
theorem dc_S_init_21 : decode prog_6_method_1_code 21 = .ok (.aload_n 0, 1) ∧ 21 + 1 = 22 := ⟨by decide +kernel, rfl⟩
theorem dc_S_init_22 : decode prog_6_method_1_code 22 = .ok (.getfield 11, 3) ∧ 22 + 3 = 25 := ⟨by decide +kernel, rfl⟩
theorem dc_S_init_25 : decode prog_6_method_1_code 25 = .ok (.iload_n 1, 1) ∧ 25 + 1 = 26 := ⟨by decide +kernel, rfl⟩
theorem dc_S_init_26 : decode prog_6_method_1_code 26 = .ok (.new 9, 3) ∧ 26 + 3 = 29 := ⟨by decide +kernel, rfl⟩
theorem dc_S_init_29 : decode prog_6_method_1_code 29 = .ok (.dup, 1) ∧ 29 + 1 = 30 := ⟨by decide +kernel, rfl⟩
theorem dc_S_init_30 : decode prog_6_method_1_code 30 = .ok (.invokespecial 15, 3) ∧ 30 + 3 = 33 := ⟨by decide +kernel, rfl⟩
theorem dc_S_init_33 : decode prog_6_method_1_code 33 = .ok (.aastore, 1) ∧ 33 + 1 = 34 := ⟨by decide +kernel, rfl⟩
theorem dc_S_init_34 : decode prog_6_method_1_code 34 = .ok (.iinc 1 1, 3) ∧ 34 + 3 = 37 := ⟨by decide +kernel, rfl⟩
theorem dc_S_init_37 : decode prog_6_method_1_code 37 = .ok (.goto (-22), 3) ∧ ((37 : Nat) : Int) + (-22) = ((15 : Nat) : Int) := ⟨by decide +kernel, by decide⟩
theorem dc_S_init_40 : decode prog_6_method_1_code 40 = .ok (.aload_n 0, 1) ∧ 40 + 1 = 41 := ⟨by decide +kernel, rfl⟩
theorem dc_S_init_41 : decode prog_6_method_1_code 41 = .ok (.iconst 0, 1) ∧ 41 + 1 = 42 := ⟨by decide +kernel, rfl⟩
theorem dc_S_init_42 : decode prog_6_method_1_code 42 = .ok (.putfield 16, 3) ∧ 42 + 3 = 45 := ⟨by decide +kernel, rfl⟩
theorem dc_S_init_45 : decode prog_6_method_1_code 45 = .ok (.aload_n 0, 1) ∧ 45 + 1 = 46 := ⟨by decide +kernel, rfl⟩
theorem dc_S_init_46 : decode prog_6_method_1_code 46 = .ok (.iconst 0, 1) ∧ 46 + 1 = 47 := ⟨by decide +kernel, rfl⟩
theorem dc_S_init_47 : decode prog_6_method_1_code 47 = .ok (.putfield 20, 3) ∧ 47 + 3 = 50 := ⟨by decide +kernel, rfl⟩
theorem dc_S_init_50 : decode prog_6_method_1_code 50 = .ok (.return_, 1) := by decide +kernel
theorem dc_T_init_0 : decode prog_7_method_1_code 0 = .ok (.aload_n 0, 1) ∧ 0 + 1 = 1 := ⟨by decide +kernel, rfl⟩
theorem dc_T_init_1 : decode prog_7_method_1_code 1 = .ok (.invokespecial 3, 3) ∧ 1 + 3 = 4 := ⟨by decide +kernel, rfl⟩
theorem dc_T_init_4 : decode prog_7_method_1_code 4 = .ok (.aload_n 0, 1) ∧ 4 + 1 = 5 := ⟨by decide +kernel, rfl⟩
theorem dc_T_init_5 : decode prog_7_method_1_code 5 = .ok (.bipush 100, 2) ∧ 5 + 2 = 7 := ⟨by decide +kernel, rfl⟩
theorem dc_T_init_7 : decode prog_7_method_1_code 7 = .ok (.newarray .int, 2) ∧ 7 + 2 = 9 := ⟨by decide +kernel, rfl⟩
theorem dc_T_init_9 : decode prog_7_method_1_code 9 = .ok (.putfield 11, 3) ∧ 9 + 3 = 12 := ⟨by decide +kernel, rfl⟩
theorem dc_T_init_12 : decode prog_7_method_1_code 12 = .ok (.aload_n 0, 1) ∧ 12 + 1 = 13 := ⟨by decide +kernel, rfl⟩
theorem dc_T_init_13 : decode prog_7_method_1_code 13 = .ok (.iconst 0, 1) ∧ 13 + 1 = 14 := ⟨by decide +kernel, rfl⟩
theorem dc_T_init_14 : decode prog_7_method_1_code 14 = .ok (.putfield 15, 3) ∧ 14 + 3 = 17 := ⟨by decide +kernel, rfl⟩
theorem dc_T_init_17 : decode prog_7_method_1_code 17 = .ok (.aload_n 0, 1) ∧ 17 + 1 = 18 := ⟨by decide +kernel, rfl⟩
theorem dc_T_init_18 : decode prog_7_method_1_code 18 = .ok (.iconst 0, 1) ∧ 18 + 1 = 19 := ⟨by decide +kernel, rfl⟩
theorem dc_T_init_19 : decode prog_7_method_1_code 19 = .ok (.putfield 19, 3) ∧ 19 + 3 = 22 := ⟨by decide +kernel, rfl⟩
theorem dc_T_init_22 : decode prog_7_method_1_code 22 = .ok (.aload_n 0, 1) ∧ 22 + 1 = 23 := ⟨by decide +kernel, rfl⟩
theorem dc_T_init_23 : decode prog_7_method_1_code 23 = .ok (.iconst (-1), 1) ∧ 23 + 1 = 24 := ⟨by decide +kernel, rfl⟩
theorem dc_T_init_24 : decode prog_7_method_1_code 24 = .ok (.putfield 22, 3) ∧ 24 + 3 = 27 := ⟨by decide +kernel, rfl⟩
theorem dc_T_init_27 : decode prog_7_method_1_code 27 = .ok (.return_, 1) := by decide +kernel
theorem dc_F_setNumber_0 : decode prog_1_method_2_code 0 = .ok (.iload_n 1, 1) ∧ 0 + 1 = 1 := ⟨by decide +kernel, rfl⟩
theorem dc_F_setNumber_1 : decode prog_1_method_2_code 1 = .ok (.iload_n 2, 1) ∧ 1 + 1 = 2 := ⟨by decide +kernel, rfl⟩
theorem dc_F_setNumber_2 : decode prog_1_method_2_code 2 = .ok (.invokestatic 41, 3) ∧ 2 + 3 = 5 := ⟨by decide +kernel, rfl⟩
theorem dc_F_setNumber_5 : decode prog_1_method_2_code 5 = .ok (.ifCond .ne 6, 3) ∧ ((5 : Nat) : Int) + (6) = ((11 : Nat) : Int) ∧ 5 + 3 = 8 := ⟨by decide +kernel, by decide, rfl⟩
theorem dc_F_setNumber_8 : decode prog_1_method_2_code 8 = .ok (.ldc 45, 2) ∧ 8 + 2 = 10 := ⟨by decide +kernel, rfl⟩
theorem dc_F_setNumber_10 : decode prog_1_method_2_code 10 = .ok (.ireturn, 1) := by decide +kernel
theorem dc_F_setNumber_11 : decode prog_1_method_2_code 11 = .ok (.aload_n 0, 1) ∧ 11 + 1 = 12 := ⟨by decide +kernel, rfl⟩
theorem dc_F_setNumber_12 : decode prog_1_method_2_code 12 = .ok (.getfield 10, 3) ∧ 12 + 3 = 15 := ⟨by decide +kernel, rfl⟩
theorem dc_F_setNumber_15 : decode prog_1_method_2_code 15 = .ok (.iload_n 1, 1) ∧ 15 + 1 = 16 := ⟨by decide +kernel, rfl⟩
theorem dc_F_setNumber_16 : decode prog_1_method_2_code 16 = .ok (.invokevirtual 46, 3) ∧ 16 + 3 = 19 := ⟨by decide +kernel, rfl⟩
theorem dc_F_setNumber_19 : decode prog_1_method_2_code 19 = .ok (.istore_n 3, 1) ∧ 19 + 1 = 20 := ⟨by decide +kernel, rfl⟩
theorem dc_F_setNumber_20 : decode prog_1_method_2_code 20 = .ok (.aload_n 0, 1) ∧ 20 + 1 = 21 := ⟨by decide +kernel, rfl⟩
theorem dc_F_setNumber_21 : decode prog_1_method_2_code 21 = .ok (.getfield 30, 3) ∧ 21 + 3 = 24 := ⟨by decide +kernel, rfl⟩
theorem dc_F_setNumber_24 : decode prog_1_method_2_code 24 = .ok (.aload_n 0, 1) ∧ 24 + 1 = 25 := ⟨by decide +kernel, rfl⟩
theorem dc_F_setNumber_25 : decode prog_1_method_2_code 25 = .ok (.getfield 10, 3) ∧ 25 + 3 = 28 := ⟨by decide +kernel, rfl⟩
theorem dc_F_setNumber_28 : decode prog_1_method_2_code 28 = .ok (.invokevirtual 50, 3) ∧ 28 + 3 = 31 := ⟨by decide +kernel, rfl⟩
theorem dc_F_setNumber_31 : decode prog_1_method_2_code 31 = .ok (.aload_n 0, 1) ∧ 31 + 1 = 32 := ⟨by decide +kernel, rfl⟩
theorem dc_F_setNumber_32 : decode prog_1_method_2_code 32 = .ok (.getfield 10, 3) ∧ 32 + 3 = 35 := ⟨by decide +kernel, rfl⟩
theorem dc_F_setNumber_35 : decode prog_1_method_2_code 35 = .ok (.iload_n 1, 1) ∧ 35 + 1 = 36 := ⟨by decide +kernel, rfl⟩
theorem dc_F_setNumber_36 : decode prog_1_method_2_code 36 = .ok (.iload_n 2, 1) ∧ 36 + 1 = 37 := ⟨by decide +kernel, rfl⟩
theorem dc_F_setNumber_37 : decode prog_1_method_2_code 37 = .ok (.invokevirtual 54, 3) ∧ 37 + 3 = 40 := ⟨by decide +kernel, rfl⟩
theorem dc_F_setNumber_40 : decode prog_1_method_2_code 40 = .ok (.iload_n 3, 1) ∧ 40 + 1 = 41 := ⟨by decide +kernel, rfl⟩
theorem dc_F_setNumber_41 : decode prog_1_method_2_code 41 = .ok (.ireturn, 1) := by decide +kernel
theorem dc_A_isNumberInRange_0 : decode prog_2_method_3_code 0 = .ok (.iload_n 0, 1) ∧ 0 + 1 = 1 := ⟨by decide +kernel, rfl⟩
theorem dc_A_isNumberInRange_1 : decode prog_2_method_3_code 1 = .ok (.ifCond .lt 9, 3) ∧ ((1 : Nat) : Int) + (9) = ((10 : Nat) : Int) ∧ 1 + 3 = 4 := ⟨by decide +kernel, by decide, rfl⟩
theorem dc_A_isNumberInRange_4 : decode prog_2_method_3_code 4 = .ok (.iload_n 0, 1) ∧ 4 + 1 = 5 := ⟨by decide +kernel, rfl⟩
theorem dc_A_isNumberInRange_5 : decode prog_2_method_3_code 5 = .ok (.bipush 6, 2) ∧ 5 + 2 = 7 := ⟨by decide +kernel, rfl⟩
theorem dc_A_isNumberInRange_7 : decode prog_2_method_3_code 7 = .ok (.if_icmp .lt 5, 3) ∧ ((7 : Nat) : Int) + (5) = ((12 : Nat) : Int) ∧ 7 + 3 = 10 := ⟨by decide +kernel, by decide, rfl⟩
theorem dc_A_isNumberInRange_10 : decode prog_2_method_3_code 10 = .ok (.iconst 0, 1) ∧ 10 + 1 = 11 := ⟨by decide +kernel, rfl⟩
theorem dc_A_isNumberInRange_11 : decode prog_2_method_3_code 11 = .ok (.ireturn, 1) := by decide +kernel
theorem dc_A_isNumberInRange_12 : decode prog_2_method_3_code 12 = .ok (.iload_n 1, 1) ∧ 12 + 1 = 13 := ⟨by decide +kernel, rfl⟩
theorem dc_A_isNumberInRange_13 : decode prog_2_method_3_code 13 = .ok (.getstatic 77, 3) ∧ 13 + 3 = 16 := ⟨by decide +kernel, rfl⟩
theorem dc_A_isNumberInRange_16 : decode prog_2_method_3_code 16 = .ok (.iload_n 0, 1) ∧ 16 + 1 = 17 := ⟨by decide +kernel, rfl⟩
theorem dc_A_isNumberInRange_17 : decode prog_2_method_3_code 17 = .ok (.invokestatic 80, 3) ∧ 17 + 3 = 20 := ⟨by decide +kernel, rfl⟩
theorem dc_A_isNumberInRange_20 : decode prog_2_method_3_code 20 = .ok (.if_icmp .lt 14, 3) ∧ ((20 : Nat) : Int) + (14) = ((34 : Nat) : Int) ∧ 20 + 3 = 23 := ⟨by decide +kernel, by decide, rfl⟩
theorem dc_A_isNumberInRange_23 : decode prog_2_method_3_code 23 = .ok (.iload_n 1, 1) ∧ 23 + 1 = 24 := ⟨by decide +kernel, rfl⟩
theorem dc_A_isNumberInRange_24 : decode prog_2_method_3_code 24 = .ok (.getstatic 84, 3) ∧ 24 + 3 = 27 := ⟨by decide +kernel, rfl⟩
theorem dc_A_isNumberInRange_27 : decode prog_2_method_3_code 27 = .ok (.iload_n 0, 1) ∧ 27 + 1 = 28 := ⟨by decide +kernel, rfl⟩
theorem dc_A_isNumberInRange_28 : decode prog_2_method_3_code 28 = .ok (.invokestatic 80, 3) ∧ 28 + 3 = 31 := ⟨by decide +kernel, rfl⟩
theorem dc_A_isNumberInRange_31 : decode prog_2_method_3_code 31 = .ok (.if_icmp .le 5, 3) ∧ ((31 : Nat) : Int) + (5) = ((36 : Nat) : Int) ∧ 31 + 3 = 34 := ⟨by decide +kernel, by decide, rfl⟩
theorem dc_A_isNumberInRange_34 : decode prog_2_method_3_code 34 = .ok (.iconst 0, 1) ∧ 34 + 1 = 35 := ⟨by decide +kernel, rfl⟩
theorem dc_A_isNumberInRange_35 : decode prog_2_method_3_code 35 = .ok (.ireturn, 1) := by decide +kernel
theorem dc_A_isNumberInRange_36 : decode prog_2_method_3_code 36 = .ok (.iload_n 0, 1) ∧ 36 + 1 = 37 := ⟨by decide +kernel, rfl⟩
theorem dc_A_isNumberInRange_37 : decode prog_2_method_3_code 37 = .ok (.ifCond .ne 11, 3) ∧ ((37 : Nat) : Int) + (11) = ((48 : Nat) : Int) ∧ 37 + 3 = 40 := ⟨by decide +kernel, by decide, rfl⟩
theorem dc_A_isNumberInRange_40 : decode prog_2_method_3_code 40 = .ok (.iload_n 1, 1) ∧ 40 + 1 = 41 := ⟨by decide +kernel, rfl⟩
theorem dc_A_isNumberInRange_41 : decode prog_2_method_3_code 41 = .ok (.invokestatic 87, 3) ∧ 41 + 3 = 44 := ⟨by decide +kernel, rfl⟩
theorem dc_A_isNumberInRange_44 : decode prog_2_method_3_code 44 = .ok (.iconst 1, 1) ∧ 44 + 1 = 45 := ⟨by decide +kernel, rfl⟩
theorem dc_A_isNumberInRange_45 : decode prog_2_method_3_code 45 = .ok (.if_icmp .ne 7, 3) ∧ ((45 : Nat) : Int) + (7) = ((52 : Nat) : Int) ∧ 45 + 3 = 48 := ⟨by decide +kernel, by decide, rfl⟩
theorem dc_A_isNumberInRange_48 : decode prog_2_method_3_code 48 = .ok (.iconst 1, 1) ∧ 48 + 1 = 49 := ⟨by decide +kernel, rfl⟩
theorem dc_A_isNumberInRange_49 : decode prog_2_method_3_code 49 = .ok (.goto 4, 3) ∧ ((49 : Nat) : Int) + (4) = ((53 : Nat) : Int) := ⟨by decide +kernel, by decide⟩
theorem dc_A_isNumberInRange_52 : decode prog_2_method_3_code 52 = .ok (.iconst 0, 1) ∧ 52 + 1 = 53 := ⟨by decide +kernel, rfl⟩
theorem dc_A_isNumberInRange_53 : decode prog_2_method_3_code 53 = .ok (.ireturn, 1) := by decide +kernel
theorem dc_R_at_0 : decode prog_5_method_2_code 0 = .ok (.iload_n 1, 1) ∧ 0 + 1 = 1 := ⟨by decide +kernel, rfl⟩
theorem dc_R_at_1 : decode prog_5_method_2_code 1 = .ok (.ifCond .lt 15, 3) ∧ ((1 : Nat) : Int) + (15) = ((16 : Nat) : Int) ∧ 1 + 3 = 4 := ⟨by decide +kernel, by decide, rfl⟩
theorem dc_R_at_4 : decode prog_5_method_2_code 4 = .ok (.iload_n 1, 1) ∧ 4 + 1 = 5 := ⟨by decide +kernel, rfl⟩
theorem dc_R_at_5 : decode prog_5_method_2_code 5 = .ok (.aload_n 0, 1) ∧ 5 + 1 = 6 := ⟨by decide +kernel, rfl⟩
theorem dc_R_at_6 : decode prog_5_method_2_code 6 = .ok (.arraylength, 1) ∧ 6 + 1 = 7 := ⟨by decide +kernel, rfl⟩
theorem dc_R_at_7 : decode prog_5_method_2_code 7 = .ok (.if_icmp .ge 9, 3) ∧ ((7 : Nat) : Int) + (9) = ((16 : Nat) : Int) ∧ 7 + 3 = 10 := ⟨by decide +kernel, by decide, rfl⟩
theorem dc_R_at_10 : decode prog_5_method_2_code 10 = .ok (.aload_n 0, 1) ∧ 10 + 1 = 11 := ⟨by decide +kernel, rfl⟩
theorem dc_R_at_11 : decode prog_5_method_2_code 11 = .ok (.iload_n 1, 1) ∧ 11 + 1 = 12 := ⟨by decide +kernel, rfl⟩
theorem dc_R_at_12 : decode prog_5_method_2_code 12 = .ok (.iaload, 1) ∧ 12 + 1 = 13 := ⟨by decide +kernel, rfl⟩
theorem dc_R_at_13 : decode prog_5_method_2_code 13 = .ok (.goto 4, 3) ∧ ((13 : Nat) : Int) + (4) = ((17 : Nat) : Int) := ⟨by decide +kernel, by decide⟩
theorem dc_R_at_16 : decode prog_5_method_2_code 16 = .ok (.iconst 0, 1) ∧ 16 + 1 = 17 := ⟨by decide +kernel, rfl⟩
theorem dc_R_at_17 : decode prog_5_method_2_code 17 = .ok (.ireturn, 1) := by decide +kernel
theorem dc_J_bitCount_0 : decode prog_10_method_49_code 0 = .ok (.iload_n 0, 1) ∧ 0 + 1 = 1 := ⟨by decide +kernel, rfl⟩
theorem dc_J_bitCount_1 : decode prog_10_method_49_code 1 = .ok (.iload_n 0, 1) ∧ 1 + 1 = 2 := ⟨by decide +kernel, rfl⟩
theorem dc_J_bitCount_2 : decode prog_10_method_49_code 2 = .ok (.iconst 1, 1) ∧ 2 + 1 = 3 := ⟨by decide +kernel, rfl⟩
theorem dc_J_bitCount_3 : decode prog_10_method_49_code 3 = .ok (.iushr, 1) ∧ 3 + 1 = 4 := ⟨by decide +kernel, rfl⟩
theorem dc_J_bitCount_4 : decode prog_10_method_49_code 4 = .ok (.ldc_w 265, 3) ∧ 4 + 3 = 7 := ⟨by decide +kernel, rfl⟩
theorem dc_J_bitCount_7 : decode prog_10_method_49_code 7 = .ok (.iand, 1) ∧ 7 + 1 = 8 := ⟨by decide +kernel, rfl⟩
theorem dc_J_bitCount_8 : decode prog_10_method_49_code 8 = .ok (.isub, 1) ∧ 8 + 1 = 9 := ⟨by decide +kernel, rfl⟩
theorem dc_J_bitCount_9 : decode prog_10_method_49_code 9 = .ok (.istore_n 0, 1) ∧ 9 + 1 = 10 := ⟨by decide +kernel, rfl⟩
theorem dc_J_bitCount_10 : decode prog_10_method_49_code 10 = .ok (.iload_n 0, 1) ∧ 10 + 1 = 11 := ⟨by decide +kernel, rfl⟩
theorem dc_J_bitCount_11 : decode prog_10_method_49_code 11 = .ok (.ldc_w 266, 3) ∧ 11 + 3 = 14 := ⟨by decide +kernel, rfl⟩
theorem dc_J_bitCount_14 : decode prog_10_method_49_code 14 = .ok (.iand, 1) ∧ 14 + 1 = 15 := ⟨by decide +kernel, rfl⟩
theorem dc_J_bitCount_15 : decode prog_10_method_49_code 15 = .ok (.iload_n 0, 1) ∧ 15 + 1 = 16 := ⟨by decide +kernel, rfl⟩
theorem dc_J_bitCount_16 : decode prog_10_method_49_code 16 = .ok (.iconst 2, 1) ∧ 16 + 1 = 17 := ⟨by decide +kernel, rfl⟩
theorem dc_J_bitCount_17 : decode prog_10_method_49_code 17 = .ok (.iushr, 1) ∧ 17 + 1 = 18 := ⟨by decide +kernel, rfl⟩
theorem dc_J_bitCount_18 : decode prog_10_method_49_code 18 = .ok (.ldc_w 266, 3) ∧ 18 + 3 = 21 := ⟨by decide +kernel, rfl⟩
theorem dc_J_bitCount_21 : decode prog_10_method_49_code 21 = .ok (.iand, 1) ∧ 21 + 1 = 22 := ⟨by decide +kernel, rfl⟩
theorem dc_J_bitCount_22 : decode prog_10_method_49_code 22 = .ok (.iadd, 1) ∧ 22 + 1 = 23 := ⟨by decide +kernel, rfl⟩
theorem dc_J_bitCount_23 : decode prog_10_method_49_code 23 = .ok (.istore_n 0, 1) ∧ 23 + 1 = 24 := ⟨by decide +kernel, rfl⟩
theorem dc_J_bitCount_24 : decode prog_10_method_49_code 24 = .ok (.iload_n 0, 1) ∧ 24 + 1 = 25 := ⟨by decide +kernel, rfl⟩
theorem dc_J_bitCount_25 : decode prog_10_method_49_code 25 = .ok (.iload_n 0, 1) ∧ 25 + 1 = 26 := ⟨by decide +kernel, rfl⟩
theorem dc_J_bitCount_26 : decode prog_10_method_49_code 26 = .ok (.iconst 4, 1) ∧ 26 + 1 = 27 := ⟨by decide +kernel, rfl⟩
theorem dc_J_bitCount_27 : decode prog_10_method_49_code 27 = .ok (.iushr, 1) ∧ 27 + 1 = 28 := ⟨by decide +kernel, rfl⟩
theorem dc_J_bitCount_28 : decode prog_10_method_49_code 28 = .ok (.iadd, 1) ∧ 28 + 1 = 29 := ⟨by decide +kernel, rfl⟩
theorem dc_J_bitCount_29 : decode prog_10_method_49_code 29 = .ok (.ldc_w 267, 3) ∧ 29 + 3 = 32 := ⟨by decide +kernel, rfl⟩
theorem dc_J_bitCount_32 : decode prog_10_method_49_code 32 = .ok (.iand, 1) ∧ 32 + 1 = 33 := ⟨by decide +kernel, rfl⟩
theorem dc_J_bitCount_33 : decode prog_10_method_49_code 33 = .ok (.istore_n 0, 1) ∧ 33 + 1 = 34 := ⟨by decide +kernel, rfl⟩
theorem dc_J_bitCount_34 : decode prog_10_method_49_code 34 = .ok (.iload_n 0, 1) ∧ 34 + 1 = 35 := ⟨by decide +kernel, rfl⟩
theorem dc_J_bitCount_35 : decode prog_10_method_49_code 35 = .ok (.iload_n 0, 1) ∧ 35 + 1 = 36 := ⟨by decide +kernel, rfl⟩
theorem dc_J_bitCount_36 : decode prog_10_method_49_code 36 = .ok (.bipush 8, 2) ∧ 36 + 2 = 38 := ⟨by decide +kernel, rfl⟩
theorem dc_J_bitCount_38 : decode prog_10_method_49_code 38 = .ok (.iushr, 1) ∧ 38 + 1 = 39 := ⟨by decide +kernel, rfl⟩
theorem dc_J_bitCount_39 : decode prog_10_method_49_code 39 = .ok (.iadd, 1) ∧ 39 + 1 = 40 := ⟨by decide +kernel, rfl⟩
theorem dc_J_bitCount_40 : decode prog_10_method_49_code 40 = .ok (.istore_n 0, 1) ∧ 40 + 1 = 41 := ⟨by decide +kernel, rfl⟩
theorem dc_J_bitCount_41 : decode prog_10_method_49_code 41 = .ok (.iload_n 0, 1) ∧ 41 + 1 = 42 := ⟨by decide +kernel, rfl⟩
theorem dc_J_bitCount_42 : decode prog_10_method_49_code 42 = .ok (.iload_n 0, 1) ∧ 42 + 1 = 43 := ⟨by decide +kernel, rfl⟩
theorem dc_J_bitCount_43 : decode prog_10_method_49_code 43 = .ok (.bipush 16, 2) ∧ 43 + 2 = 45 := ⟨by decide +kernel, rfl⟩
theorem dc_J_bitCount_45 : decode prog_10_method_49_code 45 = .ok (.iushr, 1) ∧ 45 + 1 = 46 := ⟨by decide +kernel, rfl⟩
theorem dc_J_bitCount_46 : decode prog_10_method_49_code 46 = .ok (.iadd, 1) ∧ 46 + 1 = 47 := ⟨by decide +kernel, rfl⟩
theorem dc_J_bitCount_47 : decode prog_10_method_49_code 47 = .ok (.istore_n 0, 1) ∧ 47 + 1 = 48 := ⟨by decide +kernel, rfl⟩
theorem dc_J_bitCount_48 : decode prog_10_method_49_code 48 = .ok (.iload_n 0, 1) ∧ 48 + 1 = 49 := ⟨by decide +kernel, rfl⟩
theorem dc_J_bitCount_49 : decode prog_10_method_49_code 49 = .ok (.bipush 63, 2) ∧ 49 + 2 = 51 := ⟨by decide +kernel, rfl⟩
theorem dc_J_bitCount_51 : decode prog_10_method_49_code 51 = .ok (.iand, 1) ∧ 51 + 1 = 52 := ⟨by decide +kernel, rfl⟩
theorem dc_J_bitCount_52 : decode prog_10_method_49_code 52 = .ok (.ireturn, 1) := by decide +kernel
theorem dc_A_number_0 : decode prog_2_method_4_code 0 = .ok (.iload_n 1, 1) ∧ 0 + 1 = 1 := ⟨by decide +kernel, rfl⟩
theorem dc_A_number_1 : decode prog_2_method_4_code 1 = .ok (.ifCond .lt 21, 3) ∧ ((1 : Nat) : Int) + (21) = ((22 : Nat) : Int) ∧ 1 + 3 = 4 := ⟨by decide +kernel, by decide, rfl⟩
theorem dc_A_number_4 : decode prog_2_method_4_code 4 = .ok (.iload_n 1, 1) ∧ 4 + 1 = 5 := ⟨by decide +kernel, rfl⟩
theorem dc_A_number_5 : decode prog_2_method_4_code 5 = .ok (.aload_n 0, 1) ∧ 5 + 1 = 6 := ⟨by decide +kernel, rfl⟩
theorem dc_A_number_6 : decode prog_2_method_4_code 6 = .ok (.getfield 9, 3) ∧ 6 + 3 = 9 := ⟨by decide +kernel, rfl⟩
theorem dc_A_number_9 : decode prog_2_method_4_code 9 = .ok (.arraylength, 1) ∧ 9 + 1 = 10 := ⟨by decide +kernel, rfl⟩
theorem dc_A_number_10 : decode prog_2_method_4_code 10 = .ok (.if_icmp .ge 12, 3) ∧ ((10 : Nat) : Int) + (12) = ((22 : Nat) : Int) ∧ 10 + 3 = 13 := ⟨by decide +kernel, by decide, rfl⟩
theorem dc_A_number_13 : decode prog_2_method_4_code 13 = .ok (.aload_n 0, 1) ∧ 13 + 1 = 14 := ⟨by decide +kernel, rfl⟩
theorem dc_A_number_14 : decode prog_2_method_4_code 14 = .ok (.getfield 9, 3) ∧ 14 + 3 = 17 := ⟨by decide +kernel, rfl⟩
theorem dc_A_number_17 : decode prog_2_method_4_code 17 = .ok (.iload_n 1, 1) ∧ 17 + 1 = 18 := ⟨by decide +kernel, rfl⟩
theorem dc_A_number_18 : decode prog_2_method_4_code 18 = .ok (.iaload, 1) ∧ 18 + 1 = 19 := ⟨by decide +kernel, rfl⟩
theorem dc_A_number_19 : decode prog_2_method_4_code 19 = .ok (.goto 4, 3) ∧ ((19 : Nat) : Int) + (4) = ((23 : Nat) : Int) := ⟨by decide +kernel, by decide⟩
theorem dc_A_number_22 : decode prog_2_method_4_code 22 = .ok (.iconst 0, 1) ∧ 22 + 1 = 23 := ⟨by decide +kernel, rfl⟩
theorem dc_A_number_23 : decode prog_2_method_4_code 23 = .ok (.ireturn, 1) := by decide +kernel
theorem dc_S_push_0 : decode prog_6_method_2_code 0 = .ok (.aload_n 0, 1) ∧ 0 + 1 = 1 := ⟨by decide +kernel, rfl⟩
theorem dc_S_push_1 : decode prog_6_method_2_code 1 = .ok (.aload_n 0, 1) ∧ 1 + 1 = 2 := ⟨by decide +kernel, rfl⟩
theorem dc_S_push_2 : decode prog_6_method_2_code 2 = .ok (.getfield 16, 3) ∧ 2 + 3 = 5 := ⟨by decide +kernel, rfl⟩
theorem dc_S_push_5 : decode prog_6_method_2_code 5 = .ok (.invokevirtual 23, 3) ∧ 5 + 3 = 8 := ⟨by decide +kernel, rfl⟩
theorem dc_S_push_8 : decode prog_6_method_2_code 8 = .ok (.astore_n 2, 1) ∧ 8 + 1 = 9 := ⟨by decide +kernel, rfl⟩
theorem dc_S_push_9 : decode prog_6_method_2_code 9 = .ok (.aload_n 2, 1) ∧ 9 + 1 = 10 := ⟨by decide +kernel, rfl⟩
theorem dc_S_push_10 : decode prog_6_method_2_code 10 = .ok (.ifnonnull 4, 3) ∧ ((10 : Nat) : Int) + (4) = ((14 : Nat) : Int) ∧ 10 + 3 = 13 := ⟨by decide +kernel, by decide, rfl⟩
theorem dc_S_push_13 : decode prog_6_method_2_code 13 = .ok (.return_, 1) := by decide +kernel
theorem dc_S_push_14 : decode prog_6_method_2_code 14 = .ok (.aload_n 2, 1) ∧ 14 + 1 = 15 := ⟨by decide +kernel, rfl⟩
theorem dc_S_push_15 : decode prog_6_method_2_code 15 = .ok (.aload_n 1, 1) ∧ 15 + 1 = 16 := ⟨by decide +kernel, rfl⟩
theorem dc_S_push_16 : decode prog_6_method_2_code 16 = .ok (.invokevirtual 27, 3) ∧ 16 + 3 = 19 := ⟨by decide +kernel, rfl⟩
theorem dc_S_push_19 : decode prog_6_method_2_code 19 = .ok (.aload_n 0, 1) ∧ 19 + 1 = 20 := ⟨by decide +kernel, rfl⟩
theorem dc_S_push_20 : decode prog_6_method_2_code 20 = .ok (.aload_n 0, 1) ∧ 20 + 1 = 21 := ⟨by decide +kernel, rfl⟩
theorem dc_S_push_21 : decode prog_6_method_2_code 21 = .ok (.getfield 16, 3) ∧ 21 + 3 = 24 := ⟨by decide +kernel, rfl⟩
theorem dc_S_push_24 : decode prog_6_method_2_code 24 = .ok (.iconst 1, 1) ∧ 24 + 1 = 25 := ⟨by decide +kernel, rfl⟩
theorem dc_S_push_25 : decode prog_6_method_2_code 25 = .ok (.iadd, 1) ∧ 25 + 1 = 26 := ⟨by decide +kernel, rfl⟩
theorem dc_S_push_26 : decode prog_6_method_2_code 26 = .ok (.bipush 6, 2) ∧ 26 + 2 = 28 := ⟨by decide +kernel, rfl⟩
theorem dc_S_push_28 : decode prog_6_method_2_code 28 = .ok (.irem, 1) ∧ 28 + 1 = 29 := ⟨by decide +kernel, rfl⟩
theorem dc_S_push_29 : decode prog_6_method_2_code 29 = .ok (.putfield 16, 3) ∧ 29 + 3 = 32 := ⟨by decide +kernel, rfl⟩
theorem dc_S_push_32 : decode prog_6_method_2_code 32 = .ok (.aload_n 0, 1) ∧ 32 + 1 = 33 := ⟨by decide +kernel, rfl⟩
theorem dc_S_push_33 : decode prog_6_method_2_code 33 = .ok (.aload_n 0, 1) ∧ 33 + 1 = 34 := ⟨by decide +kernel, rfl⟩
theorem dc_S_push_34 : decode prog_6_method_2_code 34 = .ok (.getfield 20, 3) ∧ 34 + 3 = 37 := ⟨by decide +kernel, rfl⟩
theorem dc_S_push_37 : decode prog_6_method_2_code 37 = .ok (.iconst 1, 1) ∧ 37 + 1 = 38 := ⟨by decide +kernel, rfl⟩
theorem dc_S_push_38 : decode prog_6_method_2_code 38 = .ok (.iadd, 1) ∧ 38 + 1 = 39 := ⟨by decide +kernel, rfl⟩
theorem dc_S_push_39 : decode prog_6_method_2_code 39 = .ok (.bipush 6, 2) ∧ 39 + 2 = 41 := ⟨by decide +kernel, rfl⟩
theorem dc_S_push_41 : decode prog_6_method_2_code 41 = .ok (.invokestatic 31, 3) ∧ 41 + 3 = 44 := ⟨by decide +kernel, rfl⟩
theorem dc_S_push_44 : decode prog_6_method_2_code 44 = .ok (.putfield 20, 3) ∧ 44 + 3 = 47 := ⟨by decide +kernel, rfl⟩
theorem dc_S_push_47 : decode prog_6_method_2_code 47 = .ok (.return_, 1) := by decide +kernel
theorem dc_S_rowAt_0 : decode prog_6_method_4_code 0 = .ok (.iload_n 1, 1) ∧ 0 + 1 = 1 := ⟨by decide +kernel, rfl⟩
theorem dc_S_rowAt_1 : decode prog_6_method_4_code 1 = .ok (.ifCond .lt 21, 3) ∧ ((1 : Nat) : Int) + (21) = ((22 : Nat) : Int) ∧ 1 + 3 = 4 := ⟨by decide +kernel, by decide, rfl⟩
theorem dc_S_rowAt_4 : decode prog_6_method_4_code 4 = .ok (.iload_n 1, 1) ∧ 4 + 1 = 5 := ⟨by decide +kernel, rfl⟩
theorem dc_S_rowAt_5 : decode prog_6_method_4_code 5 = .ok (.aload_n 0, 1) ∧ 5 + 1 = 6 := ⟨by decide +kernel, rfl⟩
theorem dc_S_rowAt_6 : decode prog_6_method_4_code 6 = .ok (.getfield 11, 3) ∧ 6 + 3 = 9 := ⟨by decide +kernel, rfl⟩
theorem dc_S_rowAt_9 : decode prog_6_method_4_code 9 = .ok (.arraylength, 1) ∧ 9 + 1 = 10 := ⟨by decide +kernel, rfl⟩
theorem dc_S_rowAt_10 : decode prog_6_method_4_code 10 = .ok (.if_icmp .ge 12, 3) ∧ ((10 : Nat) : Int) + (12) = ((22 : Nat) : Int) ∧ 10 + 3 = 13 := ⟨by decide +kernel, by decide, rfl⟩
theorem dc_S_rowAt_13 : decode prog_6_method_4_code 13 = .ok (.aload_n 0, 1) ∧ 13 + 1 = 14 := ⟨by decide +kernel, rfl⟩
theorem dc_S_rowAt_14 : decode prog_6_method_4_code 14 = .ok (.getfield 11, 3) ∧ 14 + 3 = 17 := ⟨by decide +kernel, rfl⟩
theorem dc_S_rowAt_17 : decode prog_6_method_4_code 17 = .ok (.iload_n 1, 1) ∧ 17 + 1 = 18 := ⟨by decide +kernel, rfl⟩
theorem dc_S_rowAt_18 : decode prog_6_method_4_code 18 = .ok (.aaload, 1) ∧ 18 + 1 = 19 := ⟨by decide +kernel, rfl⟩
theorem dc_S_rowAt_19 : decode prog_6_method_4_code 19 = .ok (.goto 4, 3) ∧ ((19 : Nat) : Int) + (4) = ((23 : Nat) : Int) := ⟨by decide +kernel, by decide⟩
theorem dc_S_rowAt_22 : decode prog_6_method_4_code 22 = .ok (.aconst_null, 1) ∧ 22 + 1 = 23 := ⟨by decide +kernel, rfl⟩
theorem dc_S_rowAt_23 : decode prog_6_method_4_code 23 = .ok (.areturn, 1) := by decide +kernel
theorem dc_A_copyFrom_0 : decode prog_2_method_2_code 0 = .ok (.aload_n 1, 1) ∧ 0 + 1 = 1 := ⟨by decide +kernel, rfl⟩
theorem dc_A_copyFrom_1 : decode prog_2_method_2_code 1 = .ok (.getfield 9, 3) ∧ 1 + 3 = 4 := ⟨by decide +kernel, rfl⟩
theorem dc_A_copyFrom_4 : decode prog_2_method_2_code 4 = .ok (.aload_n 0, 1) ∧ 4 + 1 = 5 := ⟨by decide +kernel, rfl⟩
theorem dc_A_copyFrom_5 : decode prog_2_method_2_code 5 = .ok (.getfield 9, 3) ∧ 5 + 3 = 8 := ⟨by decide +kernel, rfl⟩
theorem dc_A_copyFrom_8 : decode prog_2_method_2_code 8 = .ok (.invokestatic 35, 3) ∧ 8 + 3 = 11 := ⟨by decide +kernel, rfl⟩
theorem dc_A_copyFrom_11 : decode prog_2_method_2_code 11 = .ok (.aload_n 1, 1) ∧ 11 + 1 = 12 := ⟨by decide +kernel, rfl⟩
theorem dc_A_copyFrom_12 : decode prog_2_method_2_code 12 = .ok (.getfield 15, 3) ∧ 12 + 3 = 15 := ⟨by decide +kernel, rfl⟩
theorem dc_A_copyFrom_15 : decode prog_2_method_2_code 15 = .ok (.aload_n 0, 1) ∧ 15 + 1 = 16 := ⟨by decide +kernel, rfl⟩
theorem dc_A_copyFrom_16 : decode prog_2_method_2_code 16 = .ok (.getfield 15, 3) ∧ 16 + 3 = 19 := ⟨by decide +kernel, rfl⟩
theorem dc_A_copyFrom_19 : decode prog_2_method_2_code 19 = .ok (.invokestatic 35, 3) ∧ 19 + 3 = 22 := ⟨by decide +kernel, rfl⟩
theorem dc_A_copyFrom_22 : decode prog_2_method_2_code 22 = .ok (.aload_n 0, 1) ∧ 22 + 1 = 23 := ⟨by decide +kernel, rfl⟩
theorem dc_A_copyFrom_23 : decode prog_2_method_2_code 23 = .ok (.getfield 21, 3) ∧ 23 + 3 = 26 := ⟨by decide +kernel, rfl⟩
theorem dc_A_copyFrom_26 : decode prog_2_method_2_code 26 = .ok (.aload_n 1, 1) ∧ 26 + 1 = 27 := ⟨by decide +kernel, rfl⟩
theorem dc_A_copyFrom_27 : decode prog_2_method_2_code 27 = .ok (.getfield 21, 3) ∧ 27 + 3 = 30 := ⟨by decide +kernel, rfl⟩
theorem dc_A_copyFrom_30 : decode prog_2_method_2_code 30 = .ok (.invokevirtual 41, 3) ∧ 30 + 3 = 33 := ⟨by decide +kernel, rfl⟩
theorem dc_A_copyFrom_33 : decode prog_2_method_2_code 33 = .ok (.aload_n 0, 1) ∧ 33 + 1 = 34 := ⟨by decide +kernel, rfl⟩
theorem dc_A_copyFrom_34 : decode prog_2_method_2_code 34 = .ok (.getfield 25, 3) ∧ 34 + 3 = 37 := ⟨by decide +kernel, rfl⟩
theorem dc_A_copyFrom_37 : decode prog_2_method_2_code 37 = .ok (.aload_n 1, 1) ∧ 37 + 1 = 38 := ⟨by decide +kernel, rfl⟩
theorem dc_A_copyFrom_38 : decode prog_2_method_2_code 38 = .ok (.getfield 25, 3) ∧ 38 + 3 = 41 := ⟨by decide +kernel, rfl⟩
theorem dc_A_copyFrom_41 : decode prog_2_method_2_code 41 = .ok (.invokevirtual 41, 3) ∧ 41 + 3 = 44 := ⟨by decide +kernel, rfl⟩
theorem dc_A_copyFrom_44 : decode prog_2_method_2_code 44 = .ok (.aload_n 0, 1) ∧ 44 + 1 = 45 := ⟨by decide +kernel, rfl⟩
theorem dc_A_copyFrom_45 : decode prog_2_method_2_code 45 = .ok (.getfield 31, 3) ∧ 45 + 3 = 48 := ⟨by decide +kernel, rfl⟩
theorem dc_A_copyFrom_48 : decode prog_2_method_2_code 48 = .ok (.aload_n 1, 1) ∧ 48 + 1 = 49 := ⟨by decide +kernel, rfl⟩
theorem dc_A_copyFrom_49 : decode prog_2_method_2_code 49 = .ok (.getfield 31, 3) ∧ 49 + 3 = 52 := ⟨by decide +kernel, rfl⟩
theorem dc_A_copyFrom_52 : decode prog_2_method_2_code 52 = .ok (.invokevirtual 45, 3) ∧ 52 + 3 = 55 := ⟨by decide +kernel, rfl⟩
theorem dc_A_copyFrom_55 : decode prog_2_method_2_code 55 = .ok (.aload_n 0, 1) ∧ 55 + 1 = 56 := ⟨by decide +kernel, rfl⟩
theorem dc_A_copyFrom_56 : decode prog_2_method_2_code 56 = .ok (.aload_n 1, 1) ∧ 56 + 1 = 57 := ⟨by decide +kernel, rfl⟩
theorem dc_A_copyFrom_57 : decode prog_2_method_2_code 57 = .ok (.getfield 48, 3) ∧ 57 + 3 = 60 := ⟨by decide +kernel, rfl⟩
theorem dc_A_copyFrom_60 : decode prog_2_method_2_code 60 = .ok (.putfield 48, 3) ∧ 60 + 3 = 63 := ⟨by decide +kernel, rfl⟩
theorem dc_A_copyFrom_63 : decode prog_2_method_2_code 63 = .ok (.aload_n 0, 1) ∧ 63 + 1 = 64 := ⟨by decide +kernel, rfl⟩
theorem dc_A_copyFrom_64 : decode prog_2_method_2_code 64 = .ok (.aload_n 1, 1) ∧ 64 + 1 = 65 := ⟨by decide +kernel, rfl⟩
theorem dc_A_copyFrom_65 : decode prog_2_method_2_code 65 = .ok (.getfield 52, 3) ∧ 65 + 3 = 68 := ⟨by decide +kernel, rfl⟩
theorem dc_A_copyFrom_68 : decode prog_2_method_2_code 68 = .ok (.putfield 52, 3) ∧ 68 + 3 = 71 := ⟨by decide +kernel, rfl⟩
theorem dc_A_copyFrom_71 : decode prog_2_method_2_code 71 = .ok (.aload_n 0, 1) ∧ 71 + 1 = 72 := ⟨by decide +kernel, rfl⟩
theorem dc_A_copyFrom_72 : decode prog_2_method_2_code 72 = .ok (.aload_n 1, 1) ∧ 72 + 1 = 73 := ⟨by decide +kernel, rfl⟩
theorem dc_A_copyFrom_73 : decode prog_2_method_2_code 73 = .ok (.getfield 56, 3) ∧ 73 + 3 = 76 := ⟨by decide +kernel, rfl⟩
theorem dc_A_copyFrom_76 : decode prog_2_method_2_code 76 = .ok (.putfield 56, 3) ∧ 76 + 3 = 79 := ⟨by decide +kernel, rfl⟩
theorem dc_A_copyFrom_79 : decode prog_2_method_2_code 79 = .ok (.aload_n 0, 1) ∧ 79 + 1 = 80 := ⟨by decide +kernel, rfl⟩
theorem dc_A_copyFrom_80 : decode prog_2_method_2_code 80 = .ok (.aload_n 1, 1) ∧ 80 + 1 = 81 := ⟨by decide +kernel, rfl⟩
theorem dc_A_copyFrom_81 : decode prog_2_method_2_code 81 = .ok (.getfield 59, 3) ∧ 81 + 3 = 84 := ⟨by decide +kernel, rfl⟩
theorem dc_A_copyFrom_84 : decode prog_2_method_2_code 84 = .ok (.putfield 59, 3) ∧ 84 + 3 = 87 := ⟨by decide +kernel, rfl⟩
theorem dc_A_copyFrom_87 : decode prog_2_method_2_code 87 = .ok (.aload_n 0, 1) ∧ 87 + 1 = 88 := ⟨by decide +kernel, rfl⟩
theorem dc_A_copyFrom_88 : decode prog_2_method_2_code 88 = .ok (.aload_n 1, 1) ∧ 88 + 1 = 89 := ⟨by decide +kernel, rfl⟩
theorem dc_A_copyFrom_89 : decode prog_2_method_2_code 89 = .ok (.getfield 62, 3) ∧ 89 + 3 = 92 := ⟨by decide +kernel, rfl⟩
theorem dc_A_copyFrom_92 : decode prog_2_method_2_code 92 = .ok (.putfield 62, 3) ∧ 92 + 3 = 95 := ⟨by decide +kernel, rfl⟩
theorem dc_A_copyFrom_95 : decode prog_2_method_2_code 95 = .ok (.aload_n 0, 1) ∧ 95 + 1 = 96 := ⟨by decide +kernel, rfl⟩
theorem dc_A_copyFrom_96 : decode prog_2_method_2_code 96 = .ok (.aload_n 1, 1) ∧ 96 + 1 = 97 := ⟨by decide +kernel, rfl⟩
theorem dc_A_copyFrom_97 : decode prog_2_method_2_code 97 = .ok (.getfield 65, 3) ∧ 97 + 3 = 100 := ⟨by decide +kernel, rfl⟩
theorem dc_A_copyFrom_100 : decode prog_2_method_2_code 100 = .ok (.putfield 65, 3) ∧ 100 + 3 = 103 := ⟨by decide +kernel, rfl⟩
theorem dc_A_copyFrom_103 : decode prog_2_method_2_code 103 = .ok (.aload_n 0, 1) ∧ 103 + 1 = 104 := ⟨by decide +kernel, rfl⟩
theorem dc_A_copyFrom_104 : decode prog_2_method_2_code 104 = .ok (.aload_n 1, 1) ∧ 104 + 1 = 105 := ⟨by decide +kernel, rfl⟩
theorem dc_A_copyFrom_105 : decode prog_2_method_2_code 105 = .ok (.getfield 68, 3) ∧ 105 + 3 = 108 := ⟨by decide +kernel, rfl⟩
theorem dc_A_copyFrom_108 : decode prog_2_method_2_code 108 = .ok (.putfield 68, 3) ∧ 108 + 3 = 111 := ⟨by decide +kernel, rfl⟩
theorem dc_A_copyFrom_111 : decode prog_2_method_2_code 111 = .ok (.aload_n 0, 1) ∧ 111 + 1 = 112 := ⟨by decide +kernel, rfl⟩
theorem dc_A_copyFrom_112 : decode prog_2_method_2_code 112 = .ok (.aload_n 1, 1) ∧ 112 + 1 = 113 := ⟨by decide +kernel, rfl⟩
theorem dc_A_copyFrom_113 : decode prog_2_method_2_code 113 = .ok (.getfield 71, 3) ∧ 113 + 3 = 116 := ⟨by decide +kernel, rfl⟩
theorem dc_A_copyFrom_116 : decode prog_2_method_2_code 116 = .ok (.putfield 71, 3) ∧ 116 + 3 = 119 := ⟨by decide +kernel, rfl⟩
theorem dc_A_copyFrom_119 : decode prog_2_method_2_code 119 = .ok (.aload_n 0, 1) ∧ 119 + 1 = 120 := ⟨by decide +kernel, rfl⟩
theorem dc_A_copyFrom_120 : decode prog_2_method_2_code 120 = .ok (.aload_n 1, 1) ∧ 120 + 1 = 121 := ⟨by decide +kernel, rfl⟩
theorem dc_A_copyFrom_121 : decode prog_2_method_2_code 121 = .ok (.getfield 74, 3) ∧ 121 + 3 = 124 := ⟨by decide +kernel, rfl⟩
theorem dc_A_copyFrom_124 : decode prog_2_method_2_code 124 = .ok (.putfield 74, 3) ∧ 124 + 3 = 127 := ⟨by decide +kernel, rfl⟩
theorem dc_A_copyFrom_127 : decode prog_2_method_2_code 127 = .ok (.return_, 1) := by decide +kernel
theorem dc_R_copy_0 : decode prog_5_method_4_code 0 = .ok (.aload_n 0, 1) ∧ 0 + 1 = 1 := ⟨by decide +kernel, rfl⟩
theorem dc_R_copy_1 : decode prog_5_method_4_code 1 = .ok (.iconst 0, 1) ∧ 1 + 1 = 2 := ⟨by decide +kernel, rfl⟩
theorem dc_R_copy_2 : decode prog_5_method_4_code 2 = .ok (.aload_n 1, 1) ∧ 2 + 1 = 3 := ⟨by decide +kernel, rfl⟩
theorem dc_R_copy_3 : decode prog_5_method_4_code 3 = .ok (.iconst 0, 1) ∧ 3 + 1 = 4 := ⟨by decide +kernel, rfl⟩
theorem dc_R_copy_4 : decode prog_5_method_4_code 4 = .ok (.aload_n 0, 1) ∧ 4 + 1 = 5 := ⟨by decide +kernel, rfl⟩
theorem dc_R_copy_5 : decode prog_5_method_4_code 5 = .ok (.arraylength, 1) ∧ 5 + 1 = 6 := ⟨by decide +kernel, rfl⟩
theorem dc_R_copy_6 : decode prog_5_method_4_code 6 = .ok (.aload_n 1, 1) ∧ 6 + 1 = 7 := ⟨by decide +kernel, rfl⟩
theorem dc_R_copy_7 : decode prog_5_method_4_code 7 = .ok (.arraylength, 1) ∧ 7 + 1 = 8 := ⟨by decide +kernel, rfl⟩
theorem dc_R_copy_8 : decode prog_5_method_4_code 8 = .ok (.invokestatic 7, 3) ∧ 8 + 3 = 11 := ⟨by decide +kernel, rfl⟩
theorem dc_R_copy_11 : decode prog_5_method_4_code 11 = .ok (.invokestatic 13, 3) ∧ 11 + 3 = 14 := ⟨by decide +kernel, rfl⟩
theorem dc_R_copy_14 : decode prog_5_method_4_code 14 = .ok (.return_, 1) := by decide +kernel
theorem dc_J_min_0 : decode prog_11_method_69_code 0 = .ok (.iload_n 0, 1) ∧ 0 + 1 = 1 := ⟨by decide +kernel, rfl⟩
theorem dc_J_min_1 : decode prog_11_method_69_code 1 = .ok (.iload_n 1, 1) ∧ 1 + 1 = 2 := ⟨by decide +kernel, rfl⟩
theorem dc_J_min_2 : decode prog_11_method_69_code 2 = .ok (.if_icmp .gt 7, 3) ∧ ((2 : Nat) : Int) + (7) = ((9 : Nat) : Int) ∧ 2 + 3 = 5 := ⟨by decide +kernel, by decide, rfl⟩
theorem dc_J_min_5 : decode prog_11_method_69_code 5 = .ok (.iload_n 0, 1) ∧ 5 + 1 = 6 := ⟨by decide +kernel, rfl⟩
theorem dc_J_min_6 : decode prog_11_method_69_code 6 = .ok (.goto 4, 3) ∧ ((6 : Nat) : Int) + (4) = ((10 : Nat) : Int) := ⟨by decide +kernel, by decide⟩
theorem dc_J_min_9 : decode prog_11_method_69_code 9 = .ok (.iload_n 1, 1) ∧ 9 + 1 = 10 := ⟨by decide +kernel, rfl⟩
theorem dc_J_min_10 : decode prog_11_method_69_code 10 = .ok (.ireturn, 1) := by decide +kernel
theorem dc_P_copyFrom_0 : decode prog_4_method_2_code 0 = .ok (.aload_n 1, 1) ∧ 0 + 1 = 1 := ⟨by decide +kernel, rfl⟩
theorem dc_P_copyFrom_1 : decode prog_4_method_2_code 1 = .ok (.getfield 11, 3) ∧ 1 + 3 = 4 := ⟨by decide +kernel, rfl⟩
theorem dc_P_copyFrom_4 : decode prog_4_method_2_code 4 = .ok (.aload_n 0, 1) ∧ 4 + 1 = 5 := ⟨by decide +kernel, rfl⟩
theorem dc_P_copyFrom_5 : decode prog_4_method_2_code 5 = .ok (.getfield 11, 3) ∧ 5 + 3 = 8 := ⟨by decide +kernel, rfl⟩
theorem dc_P_copyFrom_8 : decode prog_4_method_2_code 8 = .ok (.invokestatic 22, 3) ∧ 8 + 3 = 11 := ⟨by decide +kernel, rfl⟩
theorem dc_P_copyFrom_11 : decode prog_4_method_2_code 11 = .ok (.aload_n 1, 1) ∧ 11 + 1 = 12 := ⟨by decide +kernel, rfl⟩
theorem dc_P_copyFrom_12 : decode prog_4_method_2_code 12 = .ok (.getfield 15, 3) ∧ 12 + 3 = 15 := ⟨by decide +kernel, rfl⟩
theorem dc_P_copyFrom_15 : decode prog_4_method_2_code 15 = .ok (.aload_n 0, 1) ∧ 15 + 1 = 16 := ⟨by decide +kernel, rfl⟩
theorem dc_P_copyFrom_16 : decode prog_4_method_2_code 16 = .ok (.getfield 15, 3) ∧ 16 + 3 = 19 := ⟨by decide +kernel, rfl⟩
theorem dc_P_copyFrom_19 : decode prog_4_method_2_code 19 = .ok (.invokestatic 22, 3) ∧ 19 + 3 = 22 := ⟨by decide +kernel, rfl⟩
theorem dc_P_copyFrom_22 : decode prog_4_method_2_code 22 = .ok (.aload_n 0, 1) ∧ 22 + 1 = 23 := ⟨by decide +kernel, rfl⟩
theorem dc_P_copyFrom_23 : decode prog_4_method_2_code 23 = .ok (.aload_n 1, 1) ∧ 23 + 1 = 24 := ⟨by decide +kernel, rfl⟩
theorem dc_P_copyFrom_24 : decode prog_4_method_2_code 24 = .ok (.getfield 18, 3) ∧ 24 + 3 = 27 := ⟨by decide +kernel, rfl⟩
theorem dc_P_copyFrom_27 : decode prog_4_method_2_code 27 = .ok (.putfield 18, 3) ∧ 27 + 3 = 30 := ⟨by decide +kernel, rfl⟩
theorem dc_P_copyFrom_30 : decode prog_4_method_2_code 30 = .ok (.return_, 1) := by decide +kernel
theorem dc_C_copyFrom_0 : decode prog_3_method_2_code 0 = .ok (.aload_n 1, 1) ∧ 0 + 1 = 1 := ⟨by decide +kernel, rfl⟩
theorem dc_C_copyFrom_1 : decode prog_3_method_2_code 1 = .ok (.getfield 9, 3) ∧ 1 + 3 = 4 := ⟨by decide +kernel, rfl⟩
theorem dc_C_copyFrom_4 : decode prog_3_method_2_code 4 = .ok (.aload_n 0, 1) ∧ 4 + 1 = 5 := ⟨by decide +kernel, rfl⟩
theorem dc_C_copyFrom_5 : decode prog_3_method_2_code 5 = .ok (.getfield 9, 3) ∧ 5 + 3 = 8 := ⟨by decide +kernel, rfl⟩
theorem dc_C_copyFrom_8 : decode prog_3_method_2_code 8 = .ok (.invokestatic 20, 3) ∧ 8 + 3 = 11 := ⟨by decide +kernel, rfl⟩
theorem dc_C_copyFrom_11 : decode prog_3_method_2_code 11 = .ok (.aload_n 1, 1) ∧ 11 + 1 = 12 := ⟨by decide +kernel, rfl⟩
theorem dc_C_copyFrom_12 : decode prog_3_method_2_code 12 = .ok (.getfield 13, 3) ∧ 12 + 3 = 15 := ⟨by decide +kernel, rfl⟩
theorem dc_C_copyFrom_15 : decode prog_3_method_2_code 15 = .ok (.aload_n 0, 1) ∧ 15 + 1 = 16 := ⟨by decide +kernel, rfl⟩
theorem dc_C_copyFrom_16 : decode prog_3_method_2_code 16 = .ok (.getfield 13, 3) ∧ 16 + 3 = 19 := ⟨by decide +kernel, rfl⟩
theorem dc_C_copyFrom_19 : decode prog_3_method_2_code 19 = .ok (.invokestatic 20, 3) ∧ 19 + 3 = 22 := ⟨by decide +kernel, rfl⟩
theorem dc_C_copyFrom_22 : decode prog_3_method_2_code 22 = .ok (.aload_n 0, 1) ∧ 22 + 1 = 23 := ⟨by decide +kernel, rfl⟩
theorem dc_C_copyFrom_23 : decode prog_3_method_2_code 23 = .ok (.aload_n 1, 1) ∧ 23 + 1 = 24 := ⟨by decide +kernel, rfl⟩
theorem dc_C_copyFrom_24 : decode prog_3_method_2_code 24 = .ok (.getfield 16, 3) ∧ 24 + 3 = 27 := ⟨by decide +kernel, rfl⟩
theorem dc_C_copyFrom_27 : decode prog_3_method_2_code 27 = .ok (.putfield 16, 3) ∧ 27 + 3 = 30 := ⟨by decide +kernel, rfl⟩
theorem dc_C_copyFrom_30 : decode prog_3_method_2_code 30 = .ok (.return_, 1) := by decide +kernel
theorem dc_A_changeNumber_0 : decode prog_2_method_5_code 0 = .ok (.aload_n 0, 1) ∧ 0 + 1 = 1 := ⟨by decide +kernel, rfl⟩
theorem dc_A_changeNumber_1 : decode prog_2_method_5_code 1 = .ok (.getfield 9, 3) ∧ 1 + 3 = 4 := ⟨by decide +kernel, rfl⟩
theorem dc_A_changeNumber_4 : decode prog_2_method_5_code 4 = .ok (.iload_n 1, 1) ∧ 4 + 1 = 5 := ⟨by decide +kernel, rfl⟩
theorem dc_A_changeNumber_5 : decode prog_2_method_5_code 5 = .ok (.iload_n 2, 1) ∧ 5 + 1 = 6 := ⟨by decide +kernel, rfl⟩
theorem dc_A_changeNumber_6 : decode prog_2_method_5_code 6 = .ok (.invokestatic 93, 3) ∧ 6 + 3 = 9 := ⟨by decide +kernel, rfl⟩
theorem dc_A_changeNumber_9 : decode prog_2_method_5_code 9 = .ok (.return_, 1) := by decide +kernel
theorem dc_R_put_0 : decode prog_5_method_3_code 0 = .ok (.iload_n 1, 1) ∧ 0 + 1 = 1 := ⟨by decide +kernel, rfl⟩
theorem dc_R_put_1 : decode prog_5_method_3_code 1 = .ok (.ifCond .lt 13, 3) ∧ ((1 : Nat) : Int) + (13) = ((14 : Nat) : Int) ∧ 1 + 3 = 4 := ⟨by decide +kernel, by decide, rfl⟩
theorem dc_R_put_4 : decode prog_5_method_3_code 4 = .ok (.iload_n 1, 1) ∧ 4 + 1 = 5 := ⟨by decide +kernel, rfl⟩
theorem dc_R_put_5 : decode prog_5_method_3_code 5 = .ok (.aload_n 0, 1) ∧ 5 + 1 = 6 := ⟨by decide +kernel, rfl⟩
theorem dc_R_put_6 : decode prog_5_method_3_code 6 = .ok (.arraylength, 1) ∧ 6 + 1 = 7 := ⟨by decide +kernel, rfl⟩
theorem dc_R_put_7 : decode prog_5_method_3_code 7 = .ok (.if_icmp .ge 7, 3) ∧ ((7 : Nat) : Int) + (7) = ((14 : Nat) : Int) ∧ 7 + 3 = 10 := ⟨by decide +kernel, by decide, rfl⟩
theorem dc_R_put_10 : decode prog_5_method_3_code 10 = .ok (.aload_n 0, 1) ∧ 10 + 1 = 11 := ⟨by decide +kernel, rfl⟩
theorem dc_R_put_11 : decode prog_5_method_3_code 11 = .ok (.iload_n 1, 1) ∧ 11 + 1 = 12 := ⟨by decide +kernel, rfl⟩
theorem dc_R_put_12 : decode prog_5_method_3_code 12 = .ok (.iload_n 2, 1) ∧ 12 + 1 = 13 := ⟨by decide +kernel, rfl⟩
theorem dc_R_put_13 : decode prog_5_method_3_code 13 = .ok (.iastore, 1) ∧ 13 + 1 = 14 := ⟨by decide +kernel, rfl⟩
theorem dc_R_put_14 : decode prog_5_method_3_code 14 = .ok (.return_, 1) := by decide +kernel
theorem dc_F_setLoad_0 : decode prog_1_method_3_code 0 = .ok (.iload_n 1, 1) ∧ 0 + 1 = 1 := ⟨by decide +kernel, rfl⟩
theorem dc_F_setLoad_1 : decode prog_1_method_3_code 1 = .ok (.invokestatic 58, 3) ∧ 1 + 3 = 4 := ⟨by decide +kernel, rfl⟩
theorem dc_F_setLoad_4 : decode prog_1_method_3_code 4 = .ok (.ifCond .eq 15, 3) ∧ ((4 : Nat) : Int) + (15) = ((19 : Nat) : Int) ∧ 4 + 3 = 7 := ⟨by decide +kernel, by decide, rfl⟩
theorem dc_F_setLoad_7 : decode prog_1_method_3_code 7 = .ok (.iload_n 2, 1) ∧ 7 + 1 = 8 := ⟨by decide +kernel, rfl⟩
theorem dc_F_setLoad_8 : decode prog_1_method_3_code 8 = .ok (.iconst (-1), 1) ∧ 8 + 1 = 9 := ⟨by decide +kernel, rfl⟩
theorem dc_F_setLoad_9 : decode prog_1_method_3_code 9 = .ok (.if_icmp .lt 10, 3) ∧ ((9 : Nat) : Int) + (10) = ((19 : Nat) : Int) ∧ 9 + 3 = 12 := ⟨by decide +kernel, by decide, rfl⟩
theorem dc_F_setLoad_12 : decode prog_1_method_3_code 12 = .ok (.iload_n 2, 1) ∧ 12 + 1 = 13 := ⟨by decide +kernel, rfl⟩
theorem dc_F_setLoad_13 : decode prog_1_method_3_code 13 = .ok (.sipush 200, 3) ∧ 13 + 3 = 16 := ⟨by decide +kernel, rfl⟩
theorem dc_F_setLoad_16 : decode prog_1_method_3_code 16 = .ok (.if_icmp .le 6, 3) ∧ ((16 : Nat) : Int) + (6) = ((22 : Nat) : Int) ∧ 16 + 3 = 19 := ⟨by decide +kernel, by decide, rfl⟩
theorem dc_F_setLoad_19 : decode prog_1_method_3_code 19 = .ok (.ldc 45, 2) ∧ 19 + 2 = 21 := ⟨by decide +kernel, rfl⟩
theorem dc_F_setLoad_21 : decode prog_1_method_3_code 21 = .ok (.ireturn, 1) := by decide +kernel
theorem dc_F_setLoad_22 : decode prog_1_method_3_code 22 = .ok (.aload_n 0, 1) ∧ 22 + 1 = 23 := ⟨by decide +kernel, rfl⟩
theorem dc_F_setLoad_23 : decode prog_1_method_3_code 23 = .ok (.aload_n 0, 1) ∧ 23 + 1 = 24 := ⟨by decide +kernel, rfl⟩
theorem dc_F_setLoad_24 : decode prog_1_method_3_code 24 = .ok (.getfield 10, 3) ∧ 24 + 3 = 27 := ⟨by decide +kernel, rfl⟩
theorem dc_F_setLoad_27 : decode prog_1_method_3_code 27 = .ok (.getfield 62, 3) ∧ 27 + 3 = 30 := ⟨by decide +kernel, rfl⟩
theorem dc_F_setLoad_30 : decode prog_1_method_3_code 30 = .ok (.iload_n 1, 1) ∧ 30 + 1 = 31 := ⟨by decide +kernel, rfl⟩
theorem dc_F_setLoad_31 : decode prog_1_method_3_code 31 = .ok (.iload_n 2, 1) ∧ 31 + 1 = 32 := ⟨by decide +kernel, rfl⟩
theorem dc_F_setLoad_32 : decode prog_1_method_3_code 32 = .ok (.iconst (-1), 1) ∧ 32 + 1 = 33 := ⟨by decide +kernel, rfl⟩
theorem dc_F_setLoad_33 : decode prog_1_method_3_code 33 = .ok (.invokevirtual 66, 3) ∧ 33 + 3 = 36 := ⟨by decide +kernel, rfl⟩
theorem dc_F_setLoad_36 : decode prog_1_method_3_code 36 = .ok (.ireturn, 1) := by decide +kernel
theorem dc_F_isPlace_0 : decode prog_1_method_28_code 0 = .ok (.iload_n 0, 1) ∧ 0 + 1 = 1 := ⟨by decide +kernel, rfl⟩
theorem dc_F_isPlace_1 : decode prog_1_method_28_code 1 = .ok (.sipush (-20000), 3) ∧ 1 + 3 = 4 := ⟨by decide +kernel, rfl⟩
theorem dc_F_isPlace_4 : decode prog_1_method_28_code 4 = .ok (.if_icmp .lt 14, 3) ∧ ((4 : Nat) : Int) + (14) = ((18 : Nat) : Int) ∧ 4 + 3 = 7 := ⟨by decide +kernel, by decide, rfl⟩
theorem dc_F_isPlace_7 : decode prog_1_method_28_code 7 = .ok (.iload_n 0, 1) ∧ 7 + 1 = 8 := ⟨by decide +kernel, rfl⟩
theorem dc_F_isPlace_8 : decode prog_1_method_28_code 8 = .ok (.sipush 20000, 3) ∧ 8 + 3 = 11 := ⟨by decide +kernel, rfl⟩
theorem dc_F_isPlace_11 : decode prog_1_method_28_code 11 = .ok (.if_icmp .gt 7, 3) ∧ ((11 : Nat) : Int) + (7) = ((18 : Nat) : Int) ∧ 11 + 3 = 14 := ⟨by decide +kernel, by decide, rfl⟩
theorem dc_F_isPlace_14 : decode prog_1_method_28_code 14 = .ok (.iconst 1, 1) ∧ 14 + 1 = 15 := ⟨by decide +kernel, rfl⟩
theorem dc_F_isPlace_15 : decode prog_1_method_28_code 15 = .ok (.goto 4, 3) ∧ ((15 : Nat) : Int) + (4) = ((19 : Nat) : Int) := ⟨by decide +kernel, by decide⟩
theorem dc_F_isPlace_18 : decode prog_1_method_28_code 18 = .ok (.iconst 0, 1) ∧ 18 + 1 = 19 := ⟨by decide +kernel, rfl⟩
theorem dc_F_isPlace_19 : decode prog_1_method_28_code 19 = .ok (.ireturn, 1) := by decide +kernel
theorem dc_F_setPoint_0 : decode prog_1_method_29_code 0 = .ok (.aload_n 1, 1) ∧ 0 + 1 = 1 := ⟨by decide +kernel, rfl⟩
theorem dc_F_setPoint_1 : decode prog_1_method_29_code 1 = .ok (.iload_n 2, 1) ∧ 1 + 1 = 2 := ⟨by decide +kernel, rfl⟩
theorem dc_F_setPoint_2 : decode prog_1_method_29_code 2 = .ok (.iload 4, 2) ∧ 2 + 2 = 4 := ⟨by decide +kernel, rfl⟩
theorem dc_F_setPoint_4 : decode prog_1_method_29_code 4 = .ok (.invokevirtual 208, 3) ∧ 4 + 3 = 7 := ⟨by decide +kernel, rfl⟩
theorem dc_F_setPoint_7 : decode prog_1_method_29_code 7 = .ok (.istore 5, 2) ∧ 7 + 2 = 9 := ⟨by decide +kernel, rfl⟩
theorem dc_F_setPoint_9 : decode prog_1_method_29_code 9 = .ok (.iload_n 3, 1) ∧ 9 + 1 = 10 := ⟨by decide +kernel, rfl⟩
theorem dc_F_setPoint_10 : decode prog_1_method_29_code 10 = .ok (.iload 4, 2) ∧ 10 + 2 = 12 := ⟨by decide +kernel, rfl⟩
theorem dc_F_setPoint_12 : decode prog_1_method_29_code 12 = .ok (.if_icmp .ne 32, 3) ∧ ((12 : Nat) : Int) + (32) = ((44 : Nat) : Int) ∧ 12 + 3 = 15 := ⟨by decide +kernel, by decide, rfl⟩
theorem dc_F_setPoint_15 : decode prog_1_method_29_code 15 = .ok (.iload 5, 2) ∧ 15 + 2 = 17 := ⟨by decide +kernel, rfl⟩
theorem dc_F_setPoint_17 : decode prog_1_method_29_code 17 = .ok (.iload 4, 2) ∧ 17 + 2 = 19 := ⟨by decide +kernel, rfl⟩
theorem dc_F_setPoint_19 : decode prog_1_method_29_code 19 = .ok (.if_icmp .ne 6, 3) ∧ ((19 : Nat) : Int) + (6) = ((25 : Nat) : Int) ∧ 19 + 3 = 22 := ⟨by decide +kernel, by decide, rfl⟩
theorem dc_F_setPoint_22 : decode prog_1_method_29_code 22 = .ok (.ldc 100, 2) ∧ 22 + 2 = 24 := ⟨by decide +kernel, rfl⟩
theorem dc_F_setPoint_24 : decode prog_1_method_29_code 24 = .ok (.ireturn, 1) := by decide +kernel
theorem dc_F_setPoint_25 : decode prog_1_method_29_code 25 = .ok (.aload_n 0, 1) ∧ 25 + 1 = 26 := ⟨by decide +kernel, rfl⟩
theorem dc_F_setPoint_26 : decode prog_1_method_29_code 26 = .ok (.getfield 30, 3) ∧ 26 + 3 = 29 := ⟨by decide +kernel, rfl⟩
theorem dc_F_setPoint_29 : decode prog_1_method_29_code 29 = .ok (.aload_n 0, 1) ∧ 29 + 1 = 30 := ⟨by decide +kernel, rfl⟩
theorem dc_F_setPoint_30 : decode prog_1_method_29_code 30 = .ok (.getfield 10, 3) ∧ 30 + 3 = 33 := ⟨by decide +kernel, rfl⟩
theorem dc_F_setPoint_33 : decode prog_1_method_29_code 33 = .ok (.invokevirtual 50, 3) ∧ 33 + 3 = 36 := ⟨by decide +kernel, rfl⟩
theorem dc_F_setPoint_36 : decode prog_1_method_29_code 36 = .ok (.aload_n 1, 1) ∧ 36 + 1 = 37 := ⟨by decide +kernel, rfl⟩
theorem dc_F_setPoint_37 : decode prog_1_method_29_code 37 = .ok (.iload_n 2, 1) ∧ 37 + 1 = 38 := ⟨by decide +kernel, rfl⟩
theorem dc_F_setPoint_38 : decode prog_1_method_29_code 38 = .ok (.invokevirtual 212, 3) ∧ 38 + 3 = 41 := ⟨by decide +kernel, rfl⟩
theorem dc_F_setPoint_41 : decode prog_1_method_29_code 41 = .ok (.iload 5, 2) ∧ 41 + 2 = 43 := ⟨by decide +kernel, rfl⟩
theorem dc_F_setPoint_43 : decode prog_1_method_29_code 43 = .ok (.ireturn, 1) := by decide +kernel
theorem dc_F_setPoint_44 : decode prog_1_method_29_code 44 = .ok (.aload_n 1, 1) ∧ 44 + 1 = 45 := ⟨by decide +kernel, rfl⟩
theorem dc_F_setPoint_45 : decode prog_1_method_29_code 45 = .ok (.iload_n 2, 1) ∧ 45 + 1 = 46 := ⟨by decide +kernel, rfl⟩
theorem dc_F_setPoint_46 : decode prog_1_method_29_code 46 = .ok (.invokevirtual 215, 3) ∧ 46 + 3 = 49 := ⟨by decide +kernel, rfl⟩
theorem dc_F_setPoint_49 : decode prog_1_method_29_code 49 = .ok (.ifCond .ne 6, 3) ∧ ((49 : Nat) : Int) + (6) = ((55 : Nat) : Int) ∧ 49 + 3 = 52 := ⟨by decide +kernel, by decide, rfl⟩
theorem dc_F_setPoint_52 : decode prog_1_method_29_code 52 = .ok (.ldc 83, 2) ∧ 52 + 2 = 54 := ⟨by decide +kernel, rfl⟩
theorem dc_F_setPoint_54 : decode prog_1_method_29_code 54 = .ok (.ireturn, 1) := by decide +kernel
theorem dc_F_setPoint_55 : decode prog_1_method_29_code 55 = .ok (.aload_n 0, 1) ∧ 55 + 1 = 56 := ⟨by decide +kernel, rfl⟩
theorem dc_F_setPoint_56 : decode prog_1_method_29_code 56 = .ok (.getfield 30, 3) ∧ 56 + 3 = 59 := ⟨by decide +kernel, rfl⟩
theorem dc_F_setPoint_59 : decode prog_1_method_29_code 59 = .ok (.aload_n 0, 1) ∧ 59 + 1 = 60 := ⟨by decide +kernel, rfl⟩
theorem dc_F_setPoint_60 : decode prog_1_method_29_code 60 = .ok (.getfield 10, 3) ∧ 60 + 3 = 63 := ⟨by decide +kernel, rfl⟩
theorem dc_F_setPoint_63 : decode prog_1_method_29_code 63 = .ok (.invokevirtual 50, 3) ∧ 63 + 3 = 66 := ⟨by decide +kernel, rfl⟩
theorem dc_F_setPoint_66 : decode prog_1_method_29_code 66 = .ok (.aload_n 1, 1) ∧ 66 + 1 = 67 := ⟨by decide +kernel, rfl⟩
theorem dc_F_setPoint_67 : decode prog_1_method_29_code 67 = .ok (.iload_n 2, 1) ∧ 67 + 1 = 68 := ⟨by decide +kernel, rfl⟩
theorem dc_F_setPoint_68 : decode prog_1_method_29_code 68 = .ok (.iload_n 3, 1) ∧ 68 + 1 = 69 := ⟨by decide +kernel, rfl⟩
theorem dc_F_setPoint_69 : decode prog_1_method_29_code 69 = .ok (.invokevirtual 218, 3) ∧ 69 + 3 = 72 := ⟨by decide +kernel, rfl⟩
theorem dc_F_setPoint_72 : decode prog_1_method_29_code 72 = .ok (.iload 5, 2) ∧ 72 + 2 = 74 := ⟨by decide +kernel, rfl⟩
theorem dc_F_setPoint_74 : decode prog_1_method_29_code 74 = .ok (.ireturn, 1) := by decide +kernel
theorem dc_P_valueAt_0 : decode prog_4_method_3_code 0 = .ok (.aload_n 0, 1) ∧ 0 + 1 = 1 := ⟨by decide +kernel, rfl⟩
theorem dc_P_valueAt_1 : decode prog_4_method_3_code 1 = .ok (.iload_n 1, 1) ∧ 1 + 1 = 2 := ⟨by decide +kernel, rfl⟩
theorem dc_P_valueAt_2 : decode prog_4_method_3_code 2 = .ok (.invokevirtual 28, 3) ∧ 2 + 3 = 5 := ⟨by decide +kernel, rfl⟩
theorem dc_P_valueAt_5 : decode prog_4_method_3_code 5 = .ok (.istore_n 3, 1) ∧ 5 + 1 = 6 := ⟨by decide +kernel, rfl⟩
theorem dc_P_valueAt_6 : decode prog_4_method_3_code 6 = .ok (.aload_n 0, 1) ∧ 6 + 1 = 7 := ⟨by decide +kernel, rfl⟩
theorem dc_P_valueAt_7 : decode prog_4_method_3_code 7 = .ok (.iload_n 3, 1) ∧ 7 + 1 = 8 := ⟨by decide +kernel, rfl⟩
theorem dc_P_valueAt_8 : decode prog_4_method_3_code 8 = .ok (.iload_n 1, 1) ∧ 8 + 1 = 9 := ⟨by decide +kernel, rfl⟩
theorem dc_P_valueAt_9 : decode prog_4_method_3_code 9 = .ok (.invokevirtual 32, 3) ∧ 9 + 3 = 12 := ⟨by decide +kernel, rfl⟩
theorem dc_P_valueAt_12 : decode prog_4_method_3_code 12 = .ok (.ifCond .eq 14, 3) ∧ ((12 : Nat) : Int) + (14) = ((26 : Nat) : Int) ∧ 12 + 3 = 15 := ⟨by decide +kernel, by decide, rfl⟩
theorem dc_P_valueAt_15 : decode prog_4_method_3_code 15 = .ok (.aload_n 0, 1) ∧ 15 + 1 = 16 := ⟨by decide +kernel, rfl⟩
theorem dc_P_valueAt_16 : decode prog_4_method_3_code 16 = .ok (.getfield 15, 3) ∧ 16 + 3 = 19 := ⟨by decide +kernel, rfl⟩
theorem dc_P_valueAt_19 : decode prog_4_method_3_code 19 = .ok (.iload_n 3, 1) ∧ 19 + 1 = 20 := ⟨by decide +kernel, rfl⟩
theorem dc_P_valueAt_20 : decode prog_4_method_3_code 20 = .ok (.invokestatic 36, 3) ∧ 20 + 3 = 23 := ⟨by decide +kernel, rfl⟩
theorem dc_P_valueAt_23 : decode prog_4_method_3_code 23 = .ok (.goto 4, 3) ∧ ((23 : Nat) : Int) + (4) = ((27 : Nat) : Int) := ⟨by decide +kernel, by decide⟩
theorem dc_P_valueAt_26 : decode prog_4_method_3_code 26 = .ok (.iload_n 2, 1) ∧ 26 + 1 = 27 := ⟨by decide +kernel, rfl⟩
theorem dc_P_valueAt_27 : decode prog_4_method_3_code 27 = .ok (.ireturn, 1) := by decide +kernel
theorem dc_P_lastUpTo_0 : decode prog_4_method_12_code 0 = .ok (.iconst (-1), 1) ∧ 0 + 1 = 1 := ⟨by decide +kernel, rfl⟩
theorem dc_P_lastUpTo_1 : decode prog_4_method_12_code 1 = .ok (.istore_n 2, 1) ∧ 1 + 1 = 2 := ⟨by decide +kernel, rfl⟩
theorem dc_P_lastUpTo_2 : decode prog_4_method_12_code 2 = .ok (.iconst 0, 1) ∧ 2 + 1 = 3 := ⟨by decide +kernel, rfl⟩
theorem dc_P_lastUpTo_3 : decode prog_4_method_12_code 3 = .ok (.istore_n 3, 1) ∧ 3 + 1 = 4 := ⟨by decide +kernel, rfl⟩
theorem dc_P_lastUpTo_4 : decode prog_4_method_12_code 4 = .ok (.iload_n 3, 1) ∧ 4 + 1 = 5 := ⟨by decide +kernel, rfl⟩
theorem dc_P_lastUpTo_5 : decode prog_4_method_12_code 5 = .ok (.aload_n 0, 1) ∧ 5 + 1 = 6 := ⟨by decide +kernel, rfl⟩
theorem dc_P_lastUpTo_6 : decode prog_4_method_12_code 6 = .ok (.getfield 18, 3) ∧ 6 + 3 = 9 := ⟨by decide +kernel, rfl⟩
theorem dc_P_lastUpTo_9 : decode prog_4_method_12_code 9 = .ok (.if_icmp .ge 30, 3) ∧ ((9 : Nat) : Int) + (30) = ((39 : Nat) : Int) ∧ 9 + 3 = 12 := ⟨by decide +kernel, by decide, rfl⟩
theorem dc_P_lastUpTo_12 : decode prog_4_method_12_code 12 = .ok (.iload_n 3, 1) ∧ 12 + 1 = 13 := ⟨by decide +kernel, rfl⟩
theorem dc_P_lastUpTo_13 : decode prog_4_method_12_code 13 = .ok (.aload_n 0, 1) ∧ 13 + 1 = 14 := ⟨by decide +kernel, rfl⟩
theorem dc_P_lastUpTo_14 : decode prog_4_method_12_code 14 = .ok (.getfield 11, 3) ∧ 14 + 3 = 17 := ⟨by decide +kernel, rfl⟩
theorem dc_P_lastUpTo_17 : decode prog_4_method_12_code 17 = .ok (.arraylength, 1) ∧ 17 + 1 = 18 := ⟨by decide +kernel, rfl⟩
theorem dc_P_lastUpTo_18 : decode prog_4_method_12_code 18 = .ok (.if_icmp .ge 21, 3) ∧ ((18 : Nat) : Int) + (21) = ((39 : Nat) : Int) ∧ 18 + 3 = 21 := ⟨by decide +kernel, by decide, rfl⟩
theorem dc_P_lastUpTo_21 : decode prog_4_method_12_code 21 = .ok (.aload_n 0, 1) ∧ 21 + 1 = 22 := ⟨by decide +kernel, rfl⟩
theorem dc_P_lastUpTo_22 : decode prog_4_method_12_code 22 = .ok (.getfield 11, 3) ∧ 22 + 3 = 25 := ⟨by decide +kernel, rfl⟩
theorem dc_P_lastUpTo_25 : decode prog_4_method_12_code 25 = .ok (.iload_n 3, 1) ∧ 25 + 1 = 26 := ⟨by decide +kernel, rfl⟩
theorem dc_P_lastUpTo_26 : decode prog_4_method_12_code 26 = .ok (.iaload, 1) ∧ 26 + 1 = 27 := ⟨by decide +kernel, rfl⟩
theorem dc_P_lastUpTo_27 : decode prog_4_method_12_code 27 = .ok (.iload_n 1, 1) ∧ 27 + 1 = 28 := ⟨by decide +kernel, rfl⟩
theorem dc_P_lastUpTo_28 : decode prog_4_method_12_code 28 = .ok (.if_icmp .gt 11, 3) ∧ ((28 : Nat) : Int) + (11) = ((39 : Nat) : Int) ∧ 28 + 3 = 31 := ⟨by decide +kernel, by decide, rfl⟩
theorem dc_P_lastUpTo_31 : decode prog_4_method_12_code 31 = .ok (.iload_n 3, 1) ∧ 31 + 1 = 32 := ⟨by decide +kernel, rfl⟩
theorem dc_P_lastUpTo_32 : decode prog_4_method_12_code 32 = .ok (.istore_n 2, 1) ∧ 32 + 1 = 33 := ⟨by decide +kernel, rfl⟩
theorem dc_P_lastUpTo_33 : decode prog_4_method_12_code 33 = .ok (.iinc 3 1, 3) ∧ 33 + 3 = 36 := ⟨by decide +kernel, rfl⟩
theorem dc_P_lastUpTo_36 : decode prog_4_method_12_code 36 = .ok (.goto (-32), 3) ∧ ((36 : Nat) : Int) + (-32) = ((4 : Nat) : Int) := ⟨by decide +kernel, by decide⟩
theorem dc_P_lastUpTo_39 : decode prog_4_method_12_code 39 = .ok (.iload_n 2, 1) ∧ 39 + 1 = 40 := ⟨by decide +kernel, rfl⟩
theorem dc_P_lastUpTo_40 : decode prog_4_method_12_code 40 = .ok (.ireturn, 1) := by decide +kernel
theorem dc_P_isAt_0 : decode prog_4_method_11_code 0 = .ok (.iload_n 1, 1) ∧ 0 + 1 = 1 := ⟨by decide +kernel, rfl⟩
theorem dc_P_isAt_1 : decode prog_4_method_11_code 1 = .ok (.ifCond .lt 19, 3) ∧ ((1 : Nat) : Int) + (19) = ((20 : Nat) : Int) ∧ 1 + 3 = 4 := ⟨by decide +kernel, by decide, rfl⟩
theorem dc_P_isAt_4 : decode prog_4_method_11_code 4 = .ok (.aload_n 0, 1) ∧ 4 + 1 = 5 := ⟨by decide +kernel, rfl⟩
theorem dc_P_isAt_5 : decode prog_4_method_11_code 5 = .ok (.getfield 11, 3) ∧ 5 + 3 = 8 := ⟨by decide +kernel, rfl⟩
theorem dc_P_isAt_8 : decode prog_4_method_11_code 8 = .ok (.iload_n 1, 1) ∧ 8 + 1 = 9 := ⟨by decide +kernel, rfl⟩
theorem dc_P_isAt_9 : decode prog_4_method_11_code 9 = .ok (.invokestatic 36, 3) ∧ 9 + 3 = 12 := ⟨by decide +kernel, rfl⟩
theorem dc_P_isAt_12 : decode prog_4_method_11_code 12 = .ok (.iload_n 2, 1) ∧ 12 + 1 = 13 := ⟨by decide +kernel, rfl⟩
theorem dc_P_isAt_13 : decode prog_4_method_11_code 13 = .ok (.if_icmp .ne 7, 3) ∧ ((13 : Nat) : Int) + (7) = ((20 : Nat) : Int) ∧ 13 + 3 = 16 := ⟨by decide +kernel, by decide, rfl⟩
theorem dc_P_isAt_16 : decode prog_4_method_11_code 16 = .ok (.iconst 1, 1) ∧ 16 + 1 = 17 := ⟨by decide +kernel, rfl⟩
theorem dc_P_isAt_17 : decode prog_4_method_11_code 17 = .ok (.goto 4, 3) ∧ ((17 : Nat) : Int) + (4) = ((21 : Nat) : Int) := ⟨by decide +kernel, by decide⟩
theorem dc_P_isAt_20 : decode prog_4_method_11_code 20 = .ok (.iconst 0, 1) ∧ 20 + 1 = 21 := ⟨by decide +kernel, rfl⟩
theorem dc_P_isAt_21 : decode prog_4_method_11_code 21 = .ok (.ireturn, 1) := by decide +kernel
theorem dc_P_remove_0 : decode prog_4_method_10_code 0 = .ok (.aload_n 0, 1) ∧ 0 + 1 = 1 := ⟨by decide +kernel, rfl⟩
theorem dc_P_remove_1 : decode prog_4_method_10_code 1 = .ok (.iload_n 1, 1) ∧ 1 + 1 = 2 := ⟨by decide +kernel, rfl⟩
theorem dc_P_remove_2 : decode prog_4_method_10_code 2 = .ok (.invokevirtual 28, 3) ∧ 2 + 3 = 5 := ⟨by decide +kernel, rfl⟩
theorem dc_P_remove_5 : decode prog_4_method_10_code 5 = .ok (.istore_n 2, 1) ∧ 5 + 1 = 6 := ⟨by decide +kernel, rfl⟩
theorem dc_P_remove_6 : decode prog_4_method_10_code 6 = .ok (.aload_n 0, 1) ∧ 6 + 1 = 7 := ⟨by decide +kernel, rfl⟩
theorem dc_P_remove_7 : decode prog_4_method_10_code 7 = .ok (.iload_n 2, 1) ∧ 7 + 1 = 8 := ⟨by decide +kernel, rfl⟩
theorem dc_P_remove_8 : decode prog_4_method_10_code 8 = .ok (.iload_n 1, 1) ∧ 8 + 1 = 9 := ⟨by decide +kernel, rfl⟩
theorem dc_P_remove_9 : decode prog_4_method_10_code 9 = .ok (.invokevirtual 32, 3) ∧ 9 + 3 = 12 := ⟨by decide +kernel, rfl⟩
theorem dc_P_remove_12 : decode prog_4_method_10_code 12 = .ok (.ifCond .eq 37, 3) ∧ ((12 : Nat) : Int) + (37) = ((49 : Nat) : Int) ∧ 12 + 3 = 15 := ⟨by decide +kernel, by decide, rfl⟩
theorem dc_P_remove_15 : decode prog_4_method_10_code 15 = .ok (.aload_n 0, 1) ∧ 15 + 1 = 16 := ⟨by decide +kernel, rfl⟩
theorem dc_P_remove_16 : decode prog_4_method_10_code 16 = .ok (.getfield 11, 3) ∧ 16 + 3 = 19 := ⟨by decide +kernel, rfl⟩
theorem dc_P_remove_19 : decode prog_4_method_10_code 19 = .ok (.iload_n 2, 1) ∧ 19 + 1 = 20 := ⟨by decide +kernel, rfl⟩
theorem dc_P_remove_20 : decode prog_4_method_10_code 20 = .ok (.aload_n 0, 1) ∧ 20 + 1 = 21 := ⟨by decide +kernel, rfl⟩
theorem dc_P_remove_21 : decode prog_4_method_10_code 21 = .ok (.getfield 18, 3) ∧ 21 + 3 = 24 := ⟨by decide +kernel, rfl⟩
theorem dc_P_remove_24 : decode prog_4_method_10_code 24 = .ok (.invokestatic 55, 3) ∧ 24 + 3 = 27 := ⟨by decide +kernel, rfl⟩
theorem dc_P_remove_27 : decode prog_4_method_10_code 27 = .ok (.aload_n 0, 1) ∧ 27 + 1 = 28 := ⟨by decide +kernel, rfl⟩
theorem dc_P_remove_28 : decode prog_4_method_10_code 28 = .ok (.getfield 15, 3) ∧ 28 + 3 = 31 := ⟨by decide +kernel, rfl⟩
theorem dc_P_remove_31 : decode prog_4_method_10_code 31 = .ok (.iload_n 2, 1) ∧ 31 + 1 = 32 := ⟨by decide +kernel, rfl⟩
theorem dc_P_remove_32 : decode prog_4_method_10_code 32 = .ok (.aload_n 0, 1) ∧ 32 + 1 = 33 := ⟨by decide +kernel, rfl⟩
theorem dc_P_remove_33 : decode prog_4_method_10_code 33 = .ok (.getfield 18, 3) ∧ 33 + 3 = 36 := ⟨by decide +kernel, rfl⟩
theorem dc_P_remove_36 : decode prog_4_method_10_code 36 = .ok (.invokestatic 55, 3) ∧ 36 + 3 = 39 := ⟨by decide +kernel, rfl⟩
theorem dc_P_remove_39 : decode prog_4_method_10_code 39 = .ok (.aload_n 0, 1) ∧ 39 + 1 = 40 := ⟨by decide +kernel, rfl⟩
theorem dc_P_remove_40 : decode prog_4_method_10_code 40 = .ok (.dup, 1) ∧ 40 + 1 = 41 := ⟨by decide +kernel, rfl⟩
theorem dc_P_remove_41 : decode prog_4_method_10_code 41 = .ok (.getfield 18, 3) ∧ 41 + 3 = 44 := ⟨by decide +kernel, rfl⟩
theorem dc_P_remove_44 : decode prog_4_method_10_code 44 = .ok (.iconst 1, 1) ∧ 44 + 1 = 45 := ⟨by decide +kernel, rfl⟩
theorem dc_P_remove_45 : decode prog_4_method_10_code 45 = .ok (.isub, 1) ∧ 45 + 1 = 46 := ⟨by decide +kernel, rfl⟩
theorem dc_P_remove_46 : decode prog_4_method_10_code 46 = .ok (.putfield 18, 3) ∧ 46 + 3 = 49 := ⟨by decide +kernel, rfl⟩
theorem dc_P_remove_49 : decode prog_4_method_10_code 49 = .ok (.return_, 1) := by decide +kernel
theorem dc_R_closeGap_0 : decode prog_5_method_6_code 0 = .ok (.iload_n 1, 1) ∧ 0 + 1 = 1 := ⟨by decide +kernel, rfl⟩
theorem dc_R_closeGap_1 : decode prog_5_method_6_code 1 = .ok (.istore_n 3, 1) ∧ 1 + 1 = 2 := ⟨by decide +kernel, rfl⟩
theorem dc_R_closeGap_2 : decode prog_5_method_6_code 2 = .ok (.iload_n 3, 1) ∧ 2 + 1 = 3 := ⟨by decide +kernel, rfl⟩
theorem dc_R_closeGap_3 : decode prog_5_method_6_code 3 = .ok (.iload_n 2, 1) ∧ 3 + 1 = 4 := ⟨by decide +kernel, rfl⟩
theorem dc_R_closeGap_4 : decode prog_5_method_6_code 4 = .ok (.iconst 1, 1) ∧ 4 + 1 = 5 := ⟨by decide +kernel, rfl⟩
theorem dc_R_closeGap_5 : decode prog_5_method_6_code 5 = .ok (.isub, 1) ∧ 5 + 1 = 6 := ⟨by decide +kernel, rfl⟩
theorem dc_R_closeGap_6 : decode prog_5_method_6_code 6 = .ok (.if_icmp .ge 21, 3) ∧ ((6 : Nat) : Int) + (21) = ((27 : Nat) : Int) ∧ 6 + 3 = 9 := ⟨by decide +kernel, by decide, rfl⟩
theorem dc_R_closeGap_9 : decode prog_5_method_6_code 9 = .ok (.aload_n 0, 1) ∧ 9 + 1 = 10 := ⟨by decide +kernel, rfl⟩
theorem dc_R_closeGap_10 : decode prog_5_method_6_code 10 = .ok (.iload_n 3, 1) ∧ 10 + 1 = 11 := ⟨by decide +kernel, rfl⟩
theorem dc_R_closeGap_11 : decode prog_5_method_6_code 11 = .ok (.aload_n 0, 1) ∧ 11 + 1 = 12 := ⟨by decide +kernel, rfl⟩
theorem dc_R_closeGap_12 : decode prog_5_method_6_code 12 = .ok (.iload_n 3, 1) ∧ 12 + 1 = 13 := ⟨by decide +kernel, rfl⟩
theorem dc_R_closeGap_13 : decode prog_5_method_6_code 13 = .ok (.iconst 1, 1) ∧ 13 + 1 = 14 := ⟨by decide +kernel, rfl⟩
theorem dc_R_closeGap_14 : decode prog_5_method_6_code 14 = .ok (.iadd, 1) ∧ 14 + 1 = 15 := ⟨by decide +kernel, rfl⟩
theorem dc_R_closeGap_15 : decode prog_5_method_6_code 15 = .ok (.invokestatic 19, 3) ∧ 15 + 3 = 18 := ⟨by decide +kernel, rfl⟩
theorem dc_R_closeGap_18 : decode prog_5_method_6_code 18 = .ok (.invokestatic 25, 3) ∧ 18 + 3 = 21 := ⟨by decide +kernel, rfl⟩
theorem dc_R_closeGap_21 : decode prog_5_method_6_code 21 = .ok (.iinc 3 1, 3) ∧ 21 + 3 = 24 := ⟨by decide +kernel, rfl⟩
theorem dc_R_closeGap_24 : decode prog_5_method_6_code 24 = .ok (.goto (-22), 3) ∧ ((24 : Nat) : Int) + (-22) = ((2 : Nat) : Int) := ⟨by decide +kernel, by decide⟩
theorem dc_R_closeGap_27 : decode prog_5_method_6_code 27 = .ok (.return_, 1) := by decide +kernel
theorem dc_P_hasRoomFor_0 : decode prog_4_method_8_code 0 = .ok (.aload_n 0, 1) ∧ 0 + 1 = 1 := ⟨by decide +kernel, rfl⟩
theorem dc_P_hasRoomFor_1 : decode prog_4_method_8_code 1 = .ok (.getfield 18, 3) ∧ 1 + 3 = 4 := ⟨by decide +kernel, rfl⟩
theorem dc_P_hasRoomFor_4 : decode prog_4_method_8_code 4 = .ok (.bipush 10, 2) ∧ 4 + 2 = 6 := ⟨by decide +kernel, rfl⟩
theorem dc_P_hasRoomFor_6 : decode prog_4_method_8_code 6 = .ok (.if_icmp .lt 16, 3) ∧ ((6 : Nat) : Int) + (16) = ((22 : Nat) : Int) ∧ 6 + 3 = 9 := ⟨by decide +kernel, by decide, rfl⟩
theorem dc_P_hasRoomFor_9 : decode prog_4_method_8_code 9 = .ok (.aload_n 0, 1) ∧ 9 + 1 = 10 := ⟨by decide +kernel, rfl⟩
theorem dc_P_hasRoomFor_10 : decode prog_4_method_8_code 10 = .ok (.aload_n 0, 1) ∧ 10 + 1 = 11 := ⟨by decide +kernel, rfl⟩
theorem dc_P_hasRoomFor_11 : decode prog_4_method_8_code 11 = .ok (.iload_n 1, 1) ∧ 11 + 1 = 12 := ⟨by decide +kernel, rfl⟩
theorem dc_P_hasRoomFor_12 : decode prog_4_method_8_code 12 = .ok (.invokevirtual 28, 3) ∧ 12 + 3 = 15 := ⟨by decide +kernel, rfl⟩
theorem dc_P_hasRoomFor_15 : decode prog_4_method_8_code 15 = .ok (.iload_n 1, 1) ∧ 15 + 1 = 16 := ⟨by decide +kernel, rfl⟩
theorem dc_P_hasRoomFor_16 : decode prog_4_method_8_code 16 = .ok (.invokevirtual 32, 3) ∧ 16 + 3 = 19 := ⟨by decide +kernel, rfl⟩
theorem dc_P_hasRoomFor_19 : decode prog_4_method_8_code 19 = .ok (.ifCond .eq 7, 3) ∧ ((19 : Nat) : Int) + (7) = ((26 : Nat) : Int) ∧ 19 + 3 = 22 := ⟨by decide +kernel, by decide, rfl⟩
theorem dc_P_hasRoomFor_22 : decode prog_4_method_8_code 22 = .ok (.iconst 1, 1) ∧ 22 + 1 = 23 := ⟨by decide +kernel, rfl⟩
theorem dc_P_hasRoomFor_23 : decode prog_4_method_8_code 23 = .ok (.goto 4, 3) ∧ ((23 : Nat) : Int) + (4) = ((27 : Nat) : Int) := ⟨by decide +kernel, by decide⟩
theorem dc_P_hasRoomFor_26 : decode prog_4_method_8_code 26 = .ok (.iconst 0, 1) ∧ 26 + 1 = 27 := ⟨by decide +kernel, rfl⟩
theorem dc_P_hasRoomFor_27 : decode prog_4_method_8_code 27 = .ok (.ireturn, 1) := by decide +kernel
theorem dc_P_put_0 : decode prog_4_method_9_code 0 = .ok (.aload_n 0, 1) ∧ 0 + 1 = 1 := ⟨by decide +kernel, rfl⟩
theorem dc_P_put_1 : decode prog_4_method_9_code 1 = .ok (.iload_n 1, 1) ∧ 1 + 1 = 2 := ⟨by decide +kernel, rfl⟩
theorem dc_P_put_2 : decode prog_4_method_9_code 2 = .ok (.invokevirtual 28, 3) ∧ 2 + 3 = 5 := ⟨by decide +kernel, rfl⟩
theorem dc_P_put_5 : decode prog_4_method_9_code 5 = .ok (.istore_n 3, 1) ∧ 5 + 1 = 6 := ⟨by decide +kernel, rfl⟩
theorem dc_P_put_6 : decode prog_4_method_9_code 6 = .ok (.aload_n 0, 1) ∧ 6 + 1 = 7 := ⟨by decide +kernel, rfl⟩
theorem dc_P_put_7 : decode prog_4_method_9_code 7 = .ok (.iload_n 3, 1) ∧ 7 + 1 = 8 := ⟨by decide +kernel, rfl⟩
theorem dc_P_put_8 : decode prog_4_method_9_code 8 = .ok (.iload_n 1, 1) ∧ 8 + 1 = 9 := ⟨by decide +kernel, rfl⟩
theorem dc_P_put_9 : decode prog_4_method_9_code 9 = .ok (.invokevirtual 32, 3) ∧ 9 + 3 = 12 := ⟨by decide +kernel, rfl⟩
theorem dc_P_put_12 : decode prog_4_method_9_code 12 = .ok (.ifCond .ne 49, 3) ∧ ((12 : Nat) : Int) + (49) = ((61 : Nat) : Int) ∧ 12 + 3 = 15 := ⟨by decide +kernel, by decide, rfl⟩
theorem dc_P_put_15 : decode prog_4_method_9_code 15 = .ok (.iinc 3 1, 3) ∧ 15 + 3 = 18 := ⟨by decide +kernel, rfl⟩
theorem dc_P_put_18 : decode prog_4_method_9_code 18 = .ok (.aload_n 0, 1) ∧ 18 + 1 = 19 := ⟨by decide +kernel, rfl⟩
theorem dc_P_put_19 : decode prog_4_method_9_code 19 = .ok (.getfield 11, 3) ∧ 19 + 3 = 22 := ⟨by decide +kernel, rfl⟩
theorem dc_P_put_22 : decode prog_4_method_9_code 22 = .ok (.iload_n 3, 1) ∧ 22 + 1 = 23 := ⟨by decide +kernel, rfl⟩
theorem dc_P_put_23 : decode prog_4_method_9_code 23 = .ok (.aload_n 0, 1) ∧ 23 + 1 = 24 := ⟨by decide +kernel, rfl⟩
theorem dc_P_put_24 : decode prog_4_method_9_code 24 = .ok (.getfield 18, 3) ∧ 24 + 3 = 27 := ⟨by decide +kernel, rfl⟩
theorem dc_P_put_27 : decode prog_4_method_9_code 27 = .ok (.invokestatic 48, 3) ∧ 27 + 3 = 30 := ⟨by decide +kernel, rfl⟩
theorem dc_P_put_30 : decode prog_4_method_9_code 30 = .ok (.aload_n 0, 1) ∧ 30 + 1 = 31 := ⟨by decide +kernel, rfl⟩
theorem dc_P_put_31 : decode prog_4_method_9_code 31 = .ok (.getfield 15, 3) ∧ 31 + 3 = 34 := ⟨by decide +kernel, rfl⟩
theorem dc_P_put_34 : decode prog_4_method_9_code 34 = .ok (.iload_n 3, 1) ∧ 34 + 1 = 35 := ⟨by decide +kernel, rfl⟩
theorem dc_P_put_35 : decode prog_4_method_9_code 35 = .ok (.aload_n 0, 1) ∧ 35 + 1 = 36 := ⟨by decide +kernel, rfl⟩
theorem dc_P_put_36 : decode prog_4_method_9_code 36 = .ok (.getfield 18, 3) ∧ 36 + 3 = 39 := ⟨by decide +kernel, rfl⟩
theorem dc_P_put_39 : decode prog_4_method_9_code 39 = .ok (.invokestatic 48, 3) ∧ 39 + 3 = 42 := ⟨by decide +kernel, rfl⟩
theorem dc_P_put_42 : decode prog_4_method_9_code 42 = .ok (.aload_n 0, 1) ∧ 42 + 1 = 43 := ⟨by decide +kernel, rfl⟩
theorem dc_P_put_43 : decode prog_4_method_9_code 43 = .ok (.getfield 11, 3) ∧ 43 + 3 = 46 := ⟨by decide +kernel, rfl⟩
theorem dc_P_put_46 : decode prog_4_method_9_code 46 = .ok (.iload_n 3, 1) ∧ 46 + 1 = 47 := ⟨by decide +kernel, rfl⟩
theorem dc_P_put_47 : decode prog_4_method_9_code 47 = .ok (.iload_n 1, 1) ∧ 47 + 1 = 48 := ⟨by decide +kernel, rfl⟩
theorem dc_P_put_48 : decode prog_4_method_9_code 48 = .ok (.invokestatic 52, 3) ∧ 48 + 3 = 51 := ⟨by decide +kernel, rfl⟩
theorem dc_P_put_51 : decode prog_4_method_9_code 51 = .ok (.aload_n 0, 1) ∧ 51 + 1 = 52 := ⟨by decide +kernel, rfl⟩
theorem dc_P_put_52 : decode prog_4_method_9_code 52 = .ok (.dup, 1) ∧ 52 + 1 = 53 := ⟨by decide +kernel, rfl⟩
theorem dc_P_put_53 : decode prog_4_method_9_code 53 = .ok (.getfield 18, 3) ∧ 53 + 3 = 56 := ⟨by decide +kernel, rfl⟩
theorem dc_P_put_56 : decode prog_4_method_9_code 56 = .ok (.iconst 1, 1) ∧ 56 + 1 = 57 := ⟨by decide +kernel, rfl⟩
theorem dc_P_put_57 : decode prog_4_method_9_code 57 = .ok (.iadd, 1) ∧ 57 + 1 = 58 := ⟨by decide +kernel, rfl⟩
theorem dc_P_put_58 : decode prog_4_method_9_code 58 = .ok (.putfield 18, 3) ∧ 58 + 3 = 61 := ⟨by decide +kernel, rfl⟩
theorem dc_P_put_61 : decode prog_4_method_9_code 61 = .ok (.aload_n 0, 1) ∧ 61 + 1 = 62 := ⟨by decide +kernel, rfl⟩
theorem dc_P_put_62 : decode prog_4_method_9_code 62 = .ok (.getfield 15, 3) ∧ 62 + 3 = 65 := ⟨by decide +kernel, rfl⟩
theorem dc_P_put_65 : decode prog_4_method_9_code 65 = .ok (.iload_n 3, 1) ∧ 65 + 1 = 66 := ⟨by decide +kernel, rfl⟩
theorem dc_P_put_66 : decode prog_4_method_9_code 66 = .ok (.iload_n 2, 1) ∧ 66 + 1 = 67 := ⟨by decide +kernel, rfl⟩
theorem dc_P_put_67 : decode prog_4_method_9_code 67 = .ok (.invokestatic 52, 3) ∧ 67 + 3 = 70 := ⟨by decide +kernel, rfl⟩
theorem dc_P_put_70 : decode prog_4_method_9_code 70 = .ok (.return_, 1) := by decide +kernel
theorem dc_R_openGap_0 : decode prog_5_method_5_code 0 = .ok (.iload_n 2, 1) ∧ 0 + 1 = 1 := ⟨by decide +kernel, rfl⟩
theorem dc_R_openGap_1 : decode prog_5_method_5_code 1 = .ok (.istore_n 3, 1) ∧ 1 + 1 = 2 := ⟨by decide +kernel, rfl⟩
theorem dc_R_openGap_2 : decode prog_5_method_5_code 2 = .ok (.iload_n 3, 1) ∧ 2 + 1 = 3 := ⟨by decide +kernel, rfl⟩
theorem dc_R_openGap_3 : decode prog_5_method_5_code 3 = .ok (.iload_n 1, 1) ∧ 3 + 1 = 4 := ⟨by decide +kernel, rfl⟩
theorem dc_R_openGap_4 : decode prog_5_method_5_code 4 = .ok (.if_icmp .le 21, 3) ∧ ((4 : Nat) : Int) + (21) = ((25 : Nat) : Int) ∧ 4 + 3 = 7 := ⟨by decide +kernel, by decide, rfl⟩
theorem dc_R_openGap_7 : decode prog_5_method_5_code 7 = .ok (.aload_n 0, 1) ∧ 7 + 1 = 8 := ⟨by decide +kernel, rfl⟩
theorem dc_R_openGap_8 : decode prog_5_method_5_code 8 = .ok (.iload_n 3, 1) ∧ 8 + 1 = 9 := ⟨by decide +kernel, rfl⟩
theorem dc_R_openGap_9 : decode prog_5_method_5_code 9 = .ok (.aload_n 0, 1) ∧ 9 + 1 = 10 := ⟨by decide +kernel, rfl⟩
theorem dc_R_openGap_10 : decode prog_5_method_5_code 10 = .ok (.iload_n 3, 1) ∧ 10 + 1 = 11 := ⟨by decide +kernel, rfl⟩
theorem dc_R_openGap_11 : decode prog_5_method_5_code 11 = .ok (.iconst 1, 1) ∧ 11 + 1 = 12 := ⟨by decide +kernel, rfl⟩
theorem dc_R_openGap_12 : decode prog_5_method_5_code 12 = .ok (.isub, 1) ∧ 12 + 1 = 13 := ⟨by decide +kernel, rfl⟩
theorem dc_R_openGap_13 : decode prog_5_method_5_code 13 = .ok (.invokestatic 19, 3) ∧ 13 + 3 = 16 := ⟨by decide +kernel, rfl⟩
theorem dc_R_openGap_16 : decode prog_5_method_5_code 16 = .ok (.invokestatic 25, 3) ∧ 16 + 3 = 19 := ⟨by decide +kernel, rfl⟩
theorem dc_R_openGap_19 : decode prog_5_method_5_code 19 = .ok (.iinc 3 (-1), 3) ∧ 19 + 3 = 22 := ⟨by decide +kernel, rfl⟩
theorem dc_R_openGap_22 : decode prog_5_method_5_code 22 = .ok (.goto (-20), 3) ∧ ((22 : Nat) : Int) + (-20) = ((2 : Nat) : Int) := ⟨by decide +kernel, by decide⟩
theorem dc_R_openGap_25 : decode prog_5_method_5_code 25 = .ok (.return_, 1) := by decide +kernel
theorem dc_F_setComb_0 : decode prog_1_method_4_code 0 = .ok (.iload_n 1, 1) ∧ 0 + 1 = 1 := ⟨by decide +kernel, rfl⟩
theorem dc_F_setComb_1 : decode prog_1_method_4_code 1 = .ok (.invokestatic 58, 3) ∧ 1 + 3 = 4 := ⟨by decide +kernel, rfl⟩
theorem dc_F_setComb_4 : decode prog_1_method_4_code 4 = .ok (.ifCond .eq 15, 3) ∧ ((4 : Nat) : Int) + (15) = ((19 : Nat) : Int) ∧ 4 + 3 = 7 := ⟨by decide +kernel, by decide, rfl⟩
theorem dc_F_setComb_7 : decode prog_1_method_4_code 7 = .ok (.iload_n 2, 1) ∧ 7 + 1 = 8 := ⟨by decide +kernel, rfl⟩
theorem dc_F_setComb_8 : decode prog_1_method_4_code 8 = .ok (.bipush (-99), 2) ∧ 8 + 2 = 10 := ⟨by decide +kernel, rfl⟩
theorem dc_F_setComb_10 : decode prog_1_method_4_code 10 = .ok (.if_icmp .lt 9, 3) ∧ ((10 : Nat) : Int) + (9) = ((19 : Nat) : Int) ∧ 10 + 3 = 13 := ⟨by decide +kernel, by decide, rfl⟩
theorem dc_F_setComb_13 : decode prog_1_method_4_code 13 = .ok (.iload_n 2, 1) ∧ 13 + 1 = 14 := ⟨by decide +kernel, rfl⟩
theorem dc_F_setComb_14 : decode prog_1_method_4_code 14 = .ok (.bipush 100, 2) ∧ 14 + 2 = 16 := ⟨by decide +kernel, rfl⟩
theorem dc_F_setComb_16 : decode prog_1_method_4_code 16 = .ok (.if_icmp .le 6, 3) ∧ ((16 : Nat) : Int) + (6) = ((22 : Nat) : Int) ∧ 16 + 3 = 19 := ⟨by decide +kernel, by decide, rfl⟩
theorem dc_F_setComb_19 : decode prog_1_method_4_code 19 = .ok (.ldc 45, 2) ∧ 19 + 2 = 21 := ⟨by decide +kernel, rfl⟩
theorem dc_F_setComb_21 : decode prog_1_method_4_code 21 = .ok (.ireturn, 1) := by decide +kernel
theorem dc_F_setComb_22 : decode prog_1_method_4_code 22 = .ok (.aload_n 0, 1) ∧ 22 + 1 = 23 := ⟨by decide +kernel, rfl⟩
theorem dc_F_setComb_23 : decode prog_1_method_4_code 23 = .ok (.aload_n 0, 1) ∧ 23 + 1 = 24 := ⟨by decide +kernel, rfl⟩
theorem dc_F_setComb_24 : decode prog_1_method_4_code 24 = .ok (.getfield 10, 3) ∧ 24 + 3 = 27 := ⟨by decide +kernel, rfl⟩
theorem dc_F_setComb_27 : decode prog_1_method_4_code 27 = .ok (.getfield 70, 3) ∧ 27 + 3 = 30 := ⟨by decide +kernel, rfl⟩
theorem dc_F_setComb_30 : decode prog_1_method_4_code 30 = .ok (.iload_n 1, 1) ∧ 30 + 1 = 31 := ⟨by decide +kernel, rfl⟩
theorem dc_F_setComb_31 : decode prog_1_method_4_code 31 = .ok (.iload_n 2, 1) ∧ 31 + 1 = 32 := ⟨by decide +kernel, rfl⟩
theorem dc_F_setComb_32 : decode prog_1_method_4_code 32 = .ok (.bipush 100, 2) ∧ 32 + 2 = 34 := ⟨by decide +kernel, rfl⟩
theorem dc_F_setComb_34 : decode prog_1_method_4_code 34 = .ok (.invokevirtual 66, 3) ∧ 34 + 3 = 37 := ⟨by decide +kernel, rfl⟩
theorem dc_F_setComb_37 : decode prog_1_method_4_code 37 = .ok (.ireturn, 1) := by decide +kernel
theorem dc_F_setFlag_0 : decode prog_1_method_5_code 0 = .ok (.iload_n 1, 1) ∧ 0 + 1 = 1 := ⟨by decide +kernel, rfl⟩
theorem dc_F_setFlag_1 : decode prog_1_method_5_code 1 = .ok (.invokestatic 58, 3) ∧ 1 + 3 = 4 := ⟨by decide +kernel, rfl⟩
theorem dc_F_setFlag_4 : decode prog_1_method_5_code 4 = .ok (.ifCond .eq 15, 3) ∧ ((4 : Nat) : Int) + (15) = ((19 : Nat) : Int) ∧ 4 + 3 = 7 := ⟨by decide +kernel, by decide, rfl⟩
theorem dc_F_setFlag_7 : decode prog_1_method_5_code 7 = .ok (.iload_n 2, 1) ∧ 7 + 1 = 8 := ⟨by decide +kernel, rfl⟩
theorem dc_F_setFlag_8 : decode prog_1_method_5_code 8 = .ok (.invokestatic 58, 3) ∧ 8 + 3 = 11 := ⟨by decide +kernel, rfl⟩
theorem dc_F_setFlag_11 : decode prog_1_method_5_code 11 = .ok (.ifCond .eq 8, 3) ∧ ((11 : Nat) : Int) + (8) = ((19 : Nat) : Int) ∧ 11 + 3 = 14 := ⟨by decide +kernel, by decide, rfl⟩
theorem dc_F_setFlag_14 : decode prog_1_method_5_code 14 = .ok (.iload_n 2, 1) ∧ 14 + 1 = 15 := ⟨by decide +kernel, rfl⟩
theorem dc_F_setFlag_15 : decode prog_1_method_5_code 15 = .ok (.iload_n 1, 1) ∧ 15 + 1 = 16 := ⟨by decide +kernel, rfl⟩
theorem dc_F_setFlag_16 : decode prog_1_method_5_code 16 = .ok (.if_icmp .gt 6, 3) ∧ ((16 : Nat) : Int) + (6) = ((22 : Nat) : Int) ∧ 16 + 3 = 19 := ⟨by decide +kernel, by decide, rfl⟩
theorem dc_F_setFlag_19 : decode prog_1_method_5_code 19 = .ok (.ldc 45, 2) ∧ 19 + 2 = 21 := ⟨by decide +kernel, rfl⟩
theorem dc_F_setFlag_21 : decode prog_1_method_5_code 21 = .ok (.ireturn, 1) := by decide +kernel
theorem dc_F_setFlag_22 : decode prog_1_method_5_code 22 = .ok (.aload_n 0, 1) ∧ 22 + 1 = 23 := ⟨by decide +kernel, rfl⟩
theorem dc_F_setFlag_23 : decode prog_1_method_5_code 23 = .ok (.getfield 10, 3) ∧ 23 + 3 = 26 := ⟨by decide +kernel, rfl⟩
theorem dc_F_setFlag_26 : decode prog_1_method_5_code 26 = .ok (.getfield 73, 3) ∧ 26 + 3 = 29 := ⟨by decide +kernel, rfl⟩
theorem dc_F_setFlag_29 : decode prog_1_method_5_code 29 = .ok (.ifCond .eq 7, 3) ∧ ((29 : Nat) : Int) + (7) = ((36 : Nat) : Int) ∧ 29 + 3 = 32 := ⟨by decide +kernel, by decide, rfl⟩
theorem dc_F_setFlag_32 : decode prog_1_method_5_code 32 = .ok (.iconst 1, 1) ∧ 32 + 1 = 33 := ⟨by decide +kernel, rfl⟩
theorem dc_F_setFlag_33 : decode prog_1_method_5_code 33 = .ok (.goto 4, 3) ∧ ((33 : Nat) : Int) + (4) = ((37 : Nat) : Int) := ⟨by decide +kernel, by decide⟩
theorem dc_F_setFlag_36 : decode prog_1_method_5_code 36 = .ok (.iconst 0, 1) ∧ 36 + 1 = 37 := ⟨by decide +kernel, rfl⟩
theorem dc_F_setFlag_37 : decode prog_1_method_5_code 37 = .ok (.istore_n 3, 1) ∧ 37 + 1 = 38 := ⟨by decide +kernel, rfl⟩
theorem dc_F_setFlag_38 : decode prog_1_method_5_code 38 = .ok (.aload_n 0, 1) ∧ 38 + 1 = 39 := ⟨by decide +kernel, rfl⟩
theorem dc_F_setFlag_39 : decode prog_1_method_5_code 39 = .ok (.getfield 30, 3) ∧ 39 + 3 = 42 := ⟨by decide +kernel, rfl⟩
theorem dc_F_setFlag_42 : decode prog_1_method_5_code 42 = .ok (.aload_n 0, 1) ∧ 42 + 1 = 43 := ⟨by decide +kernel, rfl⟩
theorem dc_F_setFlag_43 : decode prog_1_method_5_code 43 = .ok (.getfield 10, 3) ∧ 43 + 3 = 46 := ⟨by decide +kernel, rfl⟩
theorem dc_F_setFlag_46 : decode prog_1_method_5_code 46 = .ok (.invokevirtual 50, 3) ∧ 46 + 3 = 49 := ⟨by decide +kernel, rfl⟩
theorem dc_F_setFlag_49 : decode prog_1_method_5_code 49 = .ok (.aload_n 0, 1) ∧ 49 + 1 = 50 := ⟨by decide +kernel, rfl⟩
theorem dc_F_setFlag_50 : decode prog_1_method_5_code 50 = .ok (.getfield 10, 3) ∧ 50 + 3 = 53 := ⟨by decide +kernel, rfl⟩
theorem dc_F_setFlag_53 : decode prog_1_method_5_code 53 = .ok (.iload_n 1, 1) ∧ 53 + 1 = 54 := ⟨by decide +kernel, rfl⟩
theorem dc_F_setFlag_54 : decode prog_1_method_5_code 54 = .ok (.iload_n 2, 1) ∧ 54 + 1 = 55 := ⟨by decide +kernel, rfl⟩
theorem dc_F_setFlag_55 : decode prog_1_method_5_code 55 = .ok (.invokevirtual 77, 3) ∧ 55 + 3 = 58 := ⟨by decide +kernel, rfl⟩
theorem dc_F_setFlag_58 : decode prog_1_method_5_code 58 = .ok (.iload_n 3, 1) ∧ 58 + 1 = 59 := ⟨by decide +kernel, rfl⟩
theorem dc_F_setFlag_59 : decode prog_1_method_5_code 59 = .ok (.ireturn, 1) := by decide +kernel
theorem dc_A_placeFlag_0 : decode prog_2_method_6_code 0 = .ok (.aload_n 0, 1) ∧ 0 + 1 = 1 := ⟨by decide +kernel, rfl⟩
theorem dc_A_placeFlag_1 : decode prog_2_method_6_code 1 = .ok (.iconst 1, 1) ∧ 1 + 1 = 2 := ⟨by decide +kernel, rfl⟩
theorem dc_A_placeFlag_2 : decode prog_2_method_6_code 2 = .ok (.putfield 48, 3) ∧ 2 + 3 = 5 := ⟨by decide +kernel, rfl⟩
theorem dc_A_placeFlag_5 : decode prog_2_method_6_code 5 = .ok (.aload_n 0, 1) ∧ 5 + 1 = 6 := ⟨by decide +kernel, rfl⟩
theorem dc_A_placeFlag_6 : decode prog_2_method_6_code 6 = .ok (.iload_n 1, 1) ∧ 6 + 1 = 7 := ⟨by decide +kernel, rfl⟩
theorem dc_A_placeFlag_7 : decode prog_2_method_6_code 7 = .ok (.putfield 52, 3) ∧ 7 + 3 = 10 := ⟨by decide +kernel, rfl⟩
theorem dc_A_placeFlag_10 : decode prog_2_method_6_code 10 = .ok (.aload_n 0, 1) ∧ 10 + 1 = 11 := ⟨by decide +kernel, rfl⟩
theorem dc_A_placeFlag_11 : decode prog_2_method_6_code 11 = .ok (.iload_n 2, 1) ∧ 11 + 1 = 12 := ⟨by decide +kernel, rfl⟩
theorem dc_A_placeFlag_12 : decode prog_2_method_6_code 12 = .ok (.putfield 56, 3) ∧ 12 + 3 = 15 := ⟨by decide +kernel, rfl⟩
theorem dc_A_placeFlag_15 : decode prog_2_method_6_code 15 = .ok (.return_, 1) := by decide +kernel
theorem dc_F_appendCharacter_0 : decode prog_1_method_6_code 0 = .ok (.iload_n 1, 1) ∧ 0 + 1 = 1 := ⟨by decide +kernel, rfl⟩
theorem dc_F_appendCharacter_1 : decode prog_1_method_6_code 1 = .ok (.ifCond .lt 10, 3) ∧ ((1 : Nat) : Int) + (10) = ((11 : Nat) : Int) ∧ 1 + 3 = 4 := ⟨by decide +kernel, by decide, rfl⟩
theorem dc_F_appendCharacter_4 : decode prog_1_method_6_code 4 = .ok (.iload_n 1, 1) ∧ 4 + 1 = 5 := ⟨by decide +kernel, rfl⟩
theorem dc_F_appendCharacter_5 : decode prog_1_method_6_code 5 = .ok (.sipush 255, 3) ∧ 5 + 3 = 8 := ⟨by decide +kernel, rfl⟩
theorem dc_F_appendCharacter_8 : decode prog_1_method_6_code 8 = .ok (.if_icmp .le 6, 3) ∧ ((8 : Nat) : Int) + (6) = ((14 : Nat) : Int) ∧ 8 + 3 = 11 := ⟨by decide +kernel, by decide, rfl⟩
theorem dc_F_appendCharacter_11 : decode prog_1_method_6_code 11 = .ok (.ldc 45, 2) ∧ 11 + 2 = 13 := ⟨by decide +kernel, rfl⟩
theorem dc_F_appendCharacter_13 : decode prog_1_method_6_code 13 = .ok (.ireturn, 1) := by decide +kernel
theorem dc_F_appendCharacter_14 : decode prog_1_method_6_code 14 = .ok (.aload_n 0, 1) ∧ 14 + 1 = 15 := ⟨by decide +kernel, rfl⟩
theorem dc_F_appendCharacter_15 : decode prog_1_method_6_code 15 = .ok (.getfield 37, 3) ∧ 15 + 3 = 18 := ⟨by decide +kernel, rfl⟩
theorem dc_F_appendCharacter_18 : decode prog_1_method_6_code 18 = .ok (.iload_n 1, 1) ∧ 18 + 1 = 19 := ⟨by decide +kernel, rfl⟩
theorem dc_F_appendCharacter_19 : decode prog_1_method_6_code 19 = .ok (.invokevirtual 80, 3) ∧ 19 + 3 = 22 := ⟨by decide +kernel, rfl⟩
theorem dc_F_appendCharacter_22 : decode prog_1_method_6_code 22 = .ok (.ifCond .ne 6, 3) ∧ ((22 : Nat) : Int) + (6) = ((28 : Nat) : Int) ∧ 22 + 3 = 25 := ⟨by decide +kernel, by decide, rfl⟩
theorem dc_F_appendCharacter_25 : decode prog_1_method_6_code 25 = .ok (.ldc 83, 2) ∧ 25 + 2 = 27 := ⟨by decide +kernel, rfl⟩
theorem dc_F_appendCharacter_27 : decode prog_1_method_6_code 27 = .ok (.ireturn, 1) := by decide +kernel
theorem dc_F_appendCharacter_28 : decode prog_1_method_6_code 28 = .ok (.aload_n 0, 1) ∧ 28 + 1 = 29 := ⟨by decide +kernel, rfl⟩
theorem dc_F_appendCharacter_29 : decode prog_1_method_6_code 29 = .ok (.getfield 37, 3) ∧ 29 + 3 = 32 := ⟨by decide +kernel, rfl⟩
theorem dc_F_appendCharacter_32 : decode prog_1_method_6_code 32 = .ok (.getfield 84, 3) ∧ 32 + 3 = 35 := ⟨by decide +kernel, rfl⟩
theorem dc_F_appendCharacter_35 : decode prog_1_method_6_code 35 = .ok (.ireturn, 1) := by decide +kernel
theorem dc_T_append_0 : decode prog_7_method_2_code 0 = .ok (.aload_n 0, 1) ∧ 0 + 1 = 1 := ⟨by decide +kernel, rfl⟩
theorem dc_T_append_1 : decode prog_7_method_2_code 1 = .ok (.getfield 15, 3) ∧ 1 + 3 = 4 := ⟨by decide +kernel, rfl⟩
theorem dc_T_append_4 : decode prog_7_method_2_code 4 = .ok (.bipush 100, 2) ∧ 4 + 2 = 6 := ⟨by decide +kernel, rfl⟩
theorem dc_T_append_6 : decode prog_7_method_2_code 6 = .ok (.if_icmp .lt 5, 3) ∧ ((6 : Nat) : Int) + (5) = ((11 : Nat) : Int) ∧ 6 + 3 = 9 := ⟨by decide +kernel, by decide, rfl⟩
theorem dc_T_append_9 : decode prog_7_method_2_code 9 = .ok (.iconst 0, 1) ∧ 9 + 1 = 10 := ⟨by decide +kernel, rfl⟩
theorem dc_T_append_10 : decode prog_7_method_2_code 10 = .ok (.ireturn, 1) := by decide +kernel
theorem dc_T_append_11 : decode prog_7_method_2_code 11 = .ok (.aload_n 0, 1) ∧ 11 + 1 = 12 := ⟨by decide +kernel, rfl⟩
theorem dc_T_append_12 : decode prog_7_method_2_code 12 = .ok (.getfield 11, 3) ∧ 12 + 3 = 15 := ⟨by decide +kernel, rfl⟩
theorem dc_T_append_15 : decode prog_7_method_2_code 15 = .ok (.aload_n 0, 1) ∧ 15 + 1 = 16 := ⟨by decide +kernel, rfl⟩
theorem dc_T_append_16 : decode prog_7_method_2_code 16 = .ok (.getfield 15, 3) ∧ 16 + 3 = 19 := ⟨by decide +kernel, rfl⟩
theorem dc_T_append_19 : decode prog_7_method_2_code 19 = .ok (.iload_n 1, 1) ∧ 19 + 1 = 20 := ⟨by decide +kernel, rfl⟩
theorem dc_T_append_20 : decode prog_7_method_2_code 20 = .ok (.invokestatic 25, 3) ∧ 20 + 3 = 23 := ⟨by decide +kernel, rfl⟩
theorem dc_T_append_23 : decode prog_7_method_2_code 23 = .ok (.aload_n 0, 1) ∧ 23 + 1 = 24 := ⟨by decide +kernel, rfl⟩
theorem dc_T_append_24 : decode prog_7_method_2_code 24 = .ok (.dup, 1) ∧ 24 + 1 = 25 := ⟨by decide +kernel, rfl⟩
theorem dc_T_append_25 : decode prog_7_method_2_code 25 = .ok (.getfield 15, 3) ∧ 25 + 3 = 28 := ⟨by decide +kernel, rfl⟩
theorem dc_T_append_28 : decode prog_7_method_2_code 28 = .ok (.iconst 1, 1) ∧ 28 + 1 = 29 := ⟨by decide +kernel, rfl⟩
theorem dc_T_append_29 : decode prog_7_method_2_code 29 = .ok (.iadd, 1) ∧ 29 + 1 = 30 := ⟨by decide +kernel, rfl⟩
theorem dc_T_append_30 : decode prog_7_method_2_code 30 = .ok (.putfield 15, 3) ∧ 30 + 3 = 33 := ⟨by decide +kernel, rfl⟩
theorem dc_T_append_33 : decode prog_7_method_2_code 33 = .ok (.iconst 1, 1) ∧ 33 + 1 = 34 := ⟨by decide +kernel, rfl⟩
theorem dc_T_append_34 : decode prog_7_method_2_code 34 = .ok (.ireturn, 1) := by decide +kernel
theorem dc_F_clearText_0 : decode prog_1_method_7_code 0 = .ok (.aload_n 0, 1) ∧ 0 + 1 = 1 := ⟨by decide +kernel, rfl⟩
theorem dc_F_clearText_1 : decode prog_1_method_7_code 1 = .ok (.getfield 37, 3) ∧ 1 + 3 = 4 := ⟨by decide +kernel, rfl⟩
theorem dc_F_clearText_4 : decode prog_1_method_7_code 4 = .ok (.getfield 84, 3) ∧ 4 + 3 = 7 := ⟨by decide +kernel, rfl⟩
theorem dc_F_clearText_7 : decode prog_1_method_7_code 7 = .ok (.istore_n 1, 1) ∧ 7 + 1 = 8 := ⟨by decide +kernel, rfl⟩
theorem dc_F_clearText_8 : decode prog_1_method_7_code 8 = .ok (.aload_n 0, 1) ∧ 8 + 1 = 9 := ⟨by decide +kernel, rfl⟩
theorem dc_F_clearText_9 : decode prog_1_method_7_code 9 = .ok (.getfield 37, 3) ∧ 9 + 3 = 12 := ⟨by decide +kernel, rfl⟩
theorem dc_F_clearText_12 : decode prog_1_method_7_code 12 = .ok (.iconst 0, 1) ∧ 12 + 1 = 13 := ⟨by decide +kernel, rfl⟩
theorem dc_F_clearText_13 : decode prog_1_method_7_code 13 = .ok (.putfield 84, 3) ∧ 13 + 3 = 16 := ⟨by decide +kernel, rfl⟩
theorem dc_F_clearText_16 : decode prog_1_method_7_code 16 = .ok (.iload_n 1, 1) ∧ 16 + 1 = 17 := ⟨by decide +kernel, rfl⟩
theorem dc_F_clearText_17 : decode prog_1_method_7_code 17 = .ok (.ireturn, 1) := by decide +kernel
theorem dc_F_load_0 : decode prog_1_method_8_code 0 = .ok (.aload_n 0, 1) ∧ 0 + 1 = 1 := ⟨by decide +kernel, rfl⟩
theorem dc_F_load_1 : decode prog_1_method_8_code 1 = .ok (.getfield 16, 3) ∧ 1 + 3 = 4 := ⟨by decide +kernel, rfl⟩
theorem dc_F_load_4 : decode prog_1_method_8_code 4 = .ok (.aload_n 0, 1) ∧ 4 + 1 = 5 := ⟨by decide +kernel, rfl⟩
theorem dc_F_load_5 : decode prog_1_method_8_code 5 = .ok (.getfield 10, 3) ∧ 5 + 3 = 8 := ⟨by decide +kernel, rfl⟩
theorem dc_F_load_8 : decode prog_1_method_8_code 8 = .ok (.invokevirtual 87, 3) ∧ 8 + 3 = 11 := ⟨by decide +kernel, rfl⟩
theorem dc_F_load_11 : decode prog_1_method_8_code 11 = .ok (.aload_n 0, 1) ∧ 11 + 1 = 12 := ⟨by decide +kernel, rfl⟩
theorem dc_F_load_12 : decode prog_1_method_8_code 12 = .ok (.getfield 37, 3) ∧ 12 + 3 = 15 := ⟨by decide +kernel, rfl⟩
theorem dc_F_load_15 : decode prog_1_method_8_code 15 = .ok (.aload_n 0, 1) ∧ 15 + 1 = 16 := ⟨by decide +kernel, rfl⟩
theorem dc_F_load_16 : decode prog_1_method_8_code 16 = .ok (.getfield 16, 3) ∧ 16 + 3 = 19 := ⟨by decide +kernel, rfl⟩
theorem dc_F_load_19 : decode prog_1_method_8_code 19 = .ok (.invokevirtual 90, 3) ∧ 19 + 3 = 22 := ⟨by decide +kernel, rfl⟩
theorem dc_F_load_22 : decode prog_1_method_8_code 22 = .ok (.istore_n 1, 1) ∧ 22 + 1 = 23 := ⟨by decide +kernel, rfl⟩
theorem dc_F_load_23 : decode prog_1_method_8_code 23 = .ok (.iload_n 1, 1) ∧ 23 + 1 = 24 := ⟨by decide +kernel, rfl⟩
theorem dc_F_load_24 : decode prog_1_method_8_code 24 = .ok (.ifCond .lt 15, 3) ∧ ((24 : Nat) : Int) + (15) = ((39 : Nat) : Int) ∧ 24 + 3 = 27 := ⟨by decide +kernel, by decide, rfl⟩
theorem dc_F_load_27 : decode prog_1_method_8_code 27 = .ok (.aload_n 0, 1) ∧ 27 + 1 = 28 := ⟨by decide +kernel, rfl⟩
theorem dc_F_load_28 : decode prog_1_method_8_code 28 = .ok (.invokevirtual 94, 3) ∧ 28 + 3 = 31 := ⟨by decide +kernel, rfl⟩
theorem dc_F_load_31 : decode prog_1_method_8_code 31 = .ok (.aload_n 0, 1) ∧ 31 + 1 = 32 := ⟨by decide +kernel, rfl⟩
theorem dc_F_load_32 : decode prog_1_method_8_code 32 = .ok (.getfield 37, 3) ∧ 32 + 3 = 35 := ⟨by decide +kernel, rfl⟩
theorem dc_F_load_35 : decode prog_1_method_8_code 35 = .ok (.iconst 0, 1) ∧ 35 + 1 = 36 := ⟨by decide +kernel, rfl⟩
theorem dc_F_load_36 : decode prog_1_method_8_code 36 = .ok (.putfield 84, 3) ∧ 36 + 3 = 39 := ⟨by decide +kernel, rfl⟩
theorem dc_F_load_39 : decode prog_1_method_8_code 39 = .ok (.iload_n 1, 1) ∧ 39 + 1 = 40 := ⟨by decide +kernel, rfl⟩
theorem dc_F_load_40 : decode prog_1_method_8_code 40 = .ok (.ireturn, 1) := by decide +kernel
theorem dc_T_readInto_0 : decode prog_7_method_3_code 0 = .ok (.aload_n 0, 1) ∧ 0 + 1 = 1 := ⟨by decide +kernel, rfl⟩
theorem dc_T_readInto_1 : decode prog_7_method_3_code 1 = .ok (.iconst 0, 1) ∧ 1 + 1 = 2 := ⟨by decide +kernel, rfl⟩
theorem dc_T_readInto_2 : decode prog_7_method_3_code 2 = .ok (.putfield 19, 3) ∧ 2 + 3 = 5 := ⟨by decide +kernel, rfl⟩
theorem dc_T_readInto_5 : decode prog_7_method_3_code 5 = .ok (.aload_n 0, 1) ∧ 5 + 1 = 6 := ⟨by decide +kernel, rfl⟩
theorem dc_T_readInto_6 : decode prog_7_method_3_code 6 = .ok (.iconst (-1), 1) ∧ 6 + 1 = 7 := ⟨by decide +kernel, rfl⟩
theorem dc_T_readInto_7 : decode prog_7_method_3_code 7 = .ok (.putfield 22, 3) ∧ 7 + 3 = 10 := ⟨by decide +kernel, rfl⟩
theorem dc_T_readInto_10 : decode prog_7_method_3_code 10 = .ok (.iconst 0, 1) ∧ 10 + 1 = 11 := ⟨by decide +kernel, rfl⟩
theorem dc_T_readInto_11 : decode prog_7_method_3_code 11 = .ok (.istore_n 2, 1) ∧ 11 + 1 = 12 := ⟨by decide +kernel, rfl⟩
theorem dc_T_readInto_12 : decode prog_7_method_3_code 12 = .ok (.aload_n 0, 1) ∧ 12 + 1 = 13 := ⟨by decide +kernel, rfl⟩
theorem dc_T_readInto_13 : decode prog_7_method_3_code 13 = .ok (.invokevirtual 31, 3) ∧ 13 + 3 = 16 := ⟨by decide +kernel, rfl⟩
theorem dc_T_readInto_16 : decode prog_7_method_3_code 16 = .ok (.iload_n 2, 1) ∧ 16 + 1 = 17 := ⟨by decide +kernel, rfl⟩
theorem dc_T_readInto_17 : decode prog_7_method_3_code 17 = .ok (.bipush 100, 2) ∧ 17 + 2 = 19 := ⟨by decide +kernel, rfl⟩
theorem dc_T_readInto_19 : decode prog_7_method_3_code 19 = .ok (.if_icmp .ge 37, 3) ∧ ((19 : Nat) : Int) + (37) = ((56 : Nat) : Int) ∧ 19 + 3 = 22 := ⟨by decide +kernel, by decide, rfl⟩
theorem dc_T_readInto_22 : decode prog_7_method_3_code 22 = .ok (.aload_n 0, 1) ∧ 22 + 1 = 23 := ⟨by decide +kernel, rfl⟩
theorem dc_T_readInto_23 : decode prog_7_method_3_code 23 = .ok (.getfield 19, 3) ∧ 23 + 3 = 26 := ⟨by decide +kernel, rfl⟩
theorem dc_T_readInto_26 : decode prog_7_method_3_code 26 = .ok (.aload_n 0, 1) ∧ 26 + 1 = 27 := ⟨by decide +kernel, rfl⟩
theorem dc_T_readInto_27 : decode prog_7_method_3_code 27 = .ok (.getfield 15, 3) ∧ 27 + 3 = 30 := ⟨by decide +kernel, rfl⟩
theorem dc_T_readInto_30 : decode prog_7_method_3_code 30 = .ok (.if_icmp .ge 26, 3) ∧ ((30 : Nat) : Int) + (26) = ((56 : Nat) : Int) ∧ 30 + 3 = 33 := ⟨by decide +kernel, by decide, rfl⟩
theorem dc_T_readInto_33 : decode prog_7_method_3_code 33 = .ok (.aload_n 0, 1) ∧ 33 + 1 = 34 := ⟨by decide +kernel, rfl⟩
theorem dc_T_readInto_34 : decode prog_7_method_3_code 34 = .ok (.getfield 22, 3) ∧ 34 + 3 = 37 := ⟨by decide +kernel, rfl⟩
theorem dc_T_readInto_37 : decode prog_7_method_3_code 37 = .ok (.iconst (-1), 1) ∧ 37 + 1 = 38 := ⟨by decide +kernel, rfl⟩
theorem dc_T_readInto_38 : decode prog_7_method_3_code 38 = .ok (.if_icmp .ne 18, 3) ∧ ((38 : Nat) : Int) + (18) = ((56 : Nat) : Int) ∧ 38 + 3 = 41 := ⟨by decide +kernel, by decide, rfl⟩
theorem dc_T_readInto_41 : decode prog_7_method_3_code 41 = .ok (.aload_n 0, 1) ∧ 41 + 1 = 42 := ⟨by decide +kernel, rfl⟩
theorem dc_T_readInto_42 : decode prog_7_method_3_code 42 = .ok (.aload_n 1, 1) ∧ 42 + 1 = 43 := ⟨by decide +kernel, rfl⟩
theorem dc_T_readInto_43 : decode prog_7_method_3_code 43 = .ok (.invokevirtual 34, 3) ∧ 43 + 3 = 46 := ⟨by decide +kernel, rfl⟩
theorem dc_T_readInto_46 : decode prog_7_method_3_code 46 = .ok (.iinc 2 1, 3) ∧ 46 + 3 = 49 := ⟨by decide +kernel, rfl⟩
theorem dc_T_readInto_49 : decode prog_7_method_3_code 49 = .ok (.aload_n 0, 1) ∧ 49 + 1 = 50 := ⟨by decide +kernel, rfl⟩
theorem dc_T_readInto_50 : decode prog_7_method_3_code 50 = .ok (.invokevirtual 31, 3) ∧ 50 + 3 = 53 := ⟨by decide +kernel, rfl⟩
theorem dc_T_readInto_53 : decode prog_7_method_3_code 53 = .ok (.goto (-37), 3) ∧ ((53 : Nat) : Int) + (-37) = ((16 : Nat) : Int) := ⟨by decide +kernel, by decide⟩
theorem dc_T_readInto_56 : decode prog_7_method_3_code 56 = .ok (.aload_n 0, 1) ∧ 56 + 1 = 57 := ⟨by decide +kernel, rfl⟩
theorem dc_T_readInto_57 : decode prog_7_method_3_code 57 = .ok (.getfield 22, 3) ∧ 57 + 3 = 60 := ⟨by decide +kernel, rfl⟩
theorem dc_T_readInto_60 : decode prog_7_method_3_code 60 = .ok (.iconst (-1), 1) ∧ 60 + 1 = 61 := ⟨by decide +kernel, rfl⟩
theorem dc_T_readInto_61 : decode prog_7_method_3_code 61 = .ok (.if_icmp .ne 7, 3) ∧ ((61 : Nat) : Int) + (7) = ((68 : Nat) : Int) ∧ 61 + 3 = 64 := ⟨by decide +kernel, by decide, rfl⟩
theorem dc_T_readInto_64 : decode prog_7_method_3_code 64 = .ok (.iload_n 2, 1) ∧ 64 + 1 = 65 := ⟨by decide +kernel, rfl⟩
theorem dc_T_readInto_65 : decode prog_7_method_3_code 65 = .ok (.goto 10, 3) ∧ ((65 : Nat) : Int) + (10) = ((75 : Nat) : Int) := ⟨by decide +kernel, by decide⟩
theorem dc_T_readInto_68 : decode prog_7_method_3_code 68 = .ok (.ldc 38, 2) ∧ 68 + 2 = 70 := ⟨by decide +kernel, rfl⟩
theorem dc_T_readInto_70 : decode prog_7_method_3_code 70 = .ok (.aload_n 0, 1) ∧ 70 + 1 = 71 := ⟨by decide +kernel, rfl⟩
theorem dc_T_readInto_71 : decode prog_7_method_3_code 71 = .ok (.getfield 22, 3) ∧ 71 + 3 = 74 := ⟨by decide +kernel, rfl⟩
theorem dc_T_readInto_74 : decode prog_7_method_3_code 74 = .ok (.isub, 1) ∧ 74 + 1 = 75 := ⟨by decide +kernel, rfl⟩
theorem dc_T_readInto_75 : decode prog_7_method_3_code 75 = .ok (.ireturn, 1) := by decide +kernel
theorem dc_T_skipSpaces_0 : decode prog_7_method_11_code 0 = .ok (.aload_n 0, 1) ∧ 0 + 1 = 1 := ⟨by decide +kernel, rfl⟩
theorem dc_T_skipSpaces_1 : decode prog_7_method_11_code 1 = .ok (.getfield 19, 3) ∧ 1 + 3 = 4 := ⟨by decide +kernel, rfl⟩
theorem dc_T_skipSpaces_4 : decode prog_7_method_11_code 4 = .ok (.aload_n 0, 1) ∧ 4 + 1 = 5 := ⟨by decide +kernel, rfl⟩
theorem dc_T_skipSpaces_5 : decode prog_7_method_11_code 5 = .ok (.getfield 15, 3) ∧ 5 + 3 = 8 := ⟨by decide +kernel, rfl⟩
theorem dc_T_skipSpaces_8 : decode prog_7_method_11_code 8 = .ok (.if_icmp .ge 25, 3) ∧ ((8 : Nat) : Int) + (25) = ((33 : Nat) : Int) ∧ 8 + 3 = 11 := ⟨by decide +kernel, by decide, rfl⟩
theorem dc_T_skipSpaces_11 : decode prog_7_method_11_code 11 = .ok (.aload_n 0, 1) ∧ 11 + 1 = 12 := ⟨by decide +kernel, rfl⟩
theorem dc_T_skipSpaces_12 : decode prog_7_method_11_code 12 = .ok (.invokevirtual 39, 3) ∧ 12 + 3 = 15 := ⟨by decide +kernel, rfl⟩
theorem dc_T_skipSpaces_15 : decode prog_7_method_11_code 15 = .ok (.bipush 32, 2) ∧ 15 + 2 = 17 := ⟨by decide +kernel, rfl⟩
theorem dc_T_skipSpaces_17 : decode prog_7_method_11_code 17 = .ok (.if_icmp .ne 16, 3) ∧ ((17 : Nat) : Int) + (16) = ((33 : Nat) : Int) ∧ 17 + 3 = 20 := ⟨by decide +kernel, by decide, rfl⟩
theorem dc_T_skipSpaces_20 : decode prog_7_method_11_code 20 = .ok (.aload_n 0, 1) ∧ 20 + 1 = 21 := ⟨by decide +kernel, rfl⟩
theorem dc_T_skipSpaces_21 : decode prog_7_method_11_code 21 = .ok (.dup, 1) ∧ 21 + 1 = 22 := ⟨by decide +kernel, rfl⟩
theorem dc_T_skipSpaces_22 : decode prog_7_method_11_code 22 = .ok (.getfield 19, 3) ∧ 22 + 3 = 25 := ⟨by decide +kernel, rfl⟩
theorem dc_T_skipSpaces_25 : decode prog_7_method_11_code 25 = .ok (.iconst 1, 1) ∧ 25 + 1 = 26 := ⟨by decide +kernel, rfl⟩
theorem dc_T_skipSpaces_26 : decode prog_7_method_11_code 26 = .ok (.iadd, 1) ∧ 26 + 1 = 27 := ⟨by decide +kernel, rfl⟩
theorem dc_T_skipSpaces_27 : decode prog_7_method_11_code 27 = .ok (.putfield 19, 3) ∧ 27 + 3 = 30 := ⟨by decide +kernel, rfl⟩
theorem dc_T_skipSpaces_30 : decode prog_7_method_11_code 30 = .ok (.goto (-30), 3) ∧ ((30 : Nat) : Int) + (-30) = ((0 : Nat) : Int) := ⟨by decide +kernel, by decide⟩
theorem dc_T_skipSpaces_33 : decode prog_7_method_11_code 33 = .ok (.return_, 1) := by decide +kernel
theorem dc_T_nextCharacter_0 : decode prog_7_method_12_code 0 = .ok (.aload_n 0, 1) ∧ 0 + 1 = 1 := ⟨by decide +kernel, rfl⟩
theorem dc_T_nextCharacter_1 : decode prog_7_method_12_code 1 = .ok (.getfield 19, 3) ∧ 1 + 3 = 4 := ⟨by decide +kernel, rfl⟩
theorem dc_T_nextCharacter_4 : decode prog_7_method_12_code 4 = .ok (.aload_n 0, 1) ∧ 4 + 1 = 5 := ⟨by decide +kernel, rfl⟩
theorem dc_T_nextCharacter_5 : decode prog_7_method_12_code 5 = .ok (.getfield 15, 3) ∧ 5 + 3 = 8 := ⟨by decide +kernel, rfl⟩
theorem dc_T_nextCharacter_8 : decode prog_7_method_12_code 8 = .ok (.if_icmp .ge 17, 3) ∧ ((8 : Nat) : Int) + (17) = ((25 : Nat) : Int) ∧ 8 + 3 = 11 := ⟨by decide +kernel, by decide, rfl⟩
theorem dc_T_nextCharacter_11 : decode prog_7_method_12_code 11 = .ok (.aload_n 0, 1) ∧ 11 + 1 = 12 := ⟨by decide +kernel, rfl⟩
theorem dc_T_nextCharacter_12 : decode prog_7_method_12_code 12 = .ok (.getfield 11, 3) ∧ 12 + 3 = 15 := ⟨by decide +kernel, rfl⟩
theorem dc_T_nextCharacter_15 : decode prog_7_method_12_code 15 = .ok (.aload_n 0, 1) ∧ 15 + 1 = 16 := ⟨by decide +kernel, rfl⟩
theorem dc_T_nextCharacter_16 : decode prog_7_method_12_code 16 = .ok (.getfield 19, 3) ∧ 16 + 3 = 19 := ⟨by decide +kernel, rfl⟩
theorem dc_T_nextCharacter_19 : decode prog_7_method_12_code 19 = .ok (.invokestatic 87, 3) ∧ 19 + 3 = 22 := ⟨by decide +kernel, rfl⟩
theorem dc_T_nextCharacter_22 : decode prog_7_method_12_code 22 = .ok (.goto 4, 3) ∧ ((22 : Nat) : Int) + (4) = ((26 : Nat) : Int) := ⟨by decide +kernel, by decide⟩
theorem dc_T_nextCharacter_25 : decode prog_7_method_12_code 25 = .ok (.iconst (-1), 1) ∧ 25 + 1 = 26 := ⟨by decide +kernel, rfl⟩
theorem dc_T_nextCharacter_26 : decode prog_7_method_12_code 26 = .ok (.ireturn, 1) := by decide +kernel
theorem dc_T_readItem_0 : decode prog_7_method_4_code 0 = .ok (.aload_n 0, 1) ∧ 0 + 1 = 1 := ⟨by decide +kernel, rfl⟩
theorem dc_T_readItem_1 : decode prog_7_method_4_code 1 = .ok (.getfield 19, 3) ∧ 1 + 3 = 4 := ⟨by decide +kernel, rfl⟩
theorem dc_T_readItem_4 : decode prog_7_method_4_code 4 = .ok (.istore_n 2, 1) ∧ 4 + 1 = 5 := ⟨by decide +kernel, rfl⟩
theorem dc_T_readItem_5 : decode prog_7_method_4_code 5 = .ok (.aload_n 0, 1) ∧ 5 + 1 = 6 := ⟨by decide +kernel, rfl⟩
theorem dc_T_readItem_6 : decode prog_7_method_4_code 6 = .ok (.invokevirtual 39, 3) ∧ 6 + 3 = 9 := ⟨by decide +kernel, rfl⟩
theorem dc_T_readItem_9 : decode prog_7_method_4_code 9 = .ok (.istore_n 3, 1) ∧ 9 + 1 = 10 := ⟨by decide +kernel, rfl⟩
theorem dc_T_readItem_10 : decode prog_7_method_4_code 10 = .ok (.iload_n 3, 1) ∧ 10 + 1 = 11 := ⟨by decide +kernel, rfl⟩
theorem dc_T_readItem_11 : decode prog_7_method_4_code 11 = .ok (.bipush 108, 2) ∧ 11 + 2 = 13 := ⟨by decide +kernel, rfl⟩
theorem dc_T_readItem_13 : decode prog_7_method_4_code 13 = .ok (.if_icmp .eq 21, 3) ∧ ((13 : Nat) : Int) + (21) = ((34 : Nat) : Int) ∧ 13 + 3 = 16 := ⟨by decide +kernel, by decide, rfl⟩
theorem dc_T_readItem_16 : decode prog_7_method_4_code 16 = .ok (.iload_n 3, 1) ∧ 16 + 1 = 17 := ⟨by decide +kernel, rfl⟩
theorem dc_T_readItem_17 : decode prog_7_method_4_code 17 = .ok (.bipush 99, 2) ∧ 17 + 2 = 19 := ⟨by decide +kernel, rfl⟩
theorem dc_T_readItem_19 : decode prog_7_method_4_code 19 = .ok (.if_icmp .eq 15, 3) ∧ ((19 : Nat) : Int) + (15) = ((34 : Nat) : Int) ∧ 19 + 3 = 22 := ⟨by decide +kernel, by decide, rfl⟩
theorem dc_T_readItem_22 : decode prog_7_method_4_code 22 = .ok (.iload_n 3, 1) ∧ 22 + 1 = 23 := ⟨by decide +kernel, rfl⟩
theorem dc_T_readItem_23 : decode prog_7_method_4_code 23 = .ok (.bipush 102, 2) ∧ 23 + 2 = 25 := ⟨by decide +kernel, rfl⟩
theorem dc_T_readItem_25 : decode prog_7_method_4_code 25 = .ok (.if_icmp .eq 9, 3) ∧ ((25 : Nat) : Int) + (9) = ((34 : Nat) : Int) ∧ 25 + 3 = 28 := ⟨by decide +kernel, by decide, rfl⟩
theorem dc_T_readItem_28 : decode prog_7_method_4_code 28 = .ok (.aload_n 0, 1) ∧ 28 + 1 = 29 := ⟨by decide +kernel, rfl⟩
theorem dc_T_readItem_29 : decode prog_7_method_4_code 29 = .ok (.iload_n 2, 1) ∧ 29 + 1 = 30 := ⟨by decide +kernel, rfl⟩
theorem dc_T_readItem_30 : decode prog_7_method_4_code 30 = .ok (.putfield 22, 3) ∧ 30 + 3 = 33 := ⟨by decide +kernel, rfl⟩
theorem dc_T_readItem_33 : decode prog_7_method_4_code 33 = .ok (.return_, 1) := by decide +kernel
theorem dc_T_readItem_34 : decode prog_7_method_4_code 34 = .ok (.aload_n 0, 1) ∧ 34 + 1 = 35 := ⟨by decide +kernel, rfl⟩
theorem dc_T_readItem_35 : decode prog_7_method_4_code 35 = .ok (.dup, 1) ∧ 35 + 1 = 36 := ⟨by decide +kernel, rfl⟩
theorem dc_T_readItem_36 : decode prog_7_method_4_code 36 = .ok (.getfield 19, 3) ∧ 36 + 3 = 39 := ⟨by decide +kernel, rfl⟩
theorem dc_T_readItem_39 : decode prog_7_method_4_code 39 = .ok (.iconst 1, 1) ∧ 39 + 1 = 40 := ⟨by decide +kernel, rfl⟩
theorem dc_T_readItem_40 : decode prog_7_method_4_code 40 = .ok (.iadd, 1) ∧ 40 + 1 = 41 := ⟨by decide +kernel, rfl⟩
theorem dc_T_readItem_41 : decode prog_7_method_4_code 41 = .ok (.putfield 19, 3) ∧ 41 + 3 = 44 := ⟨by decide +kernel, rfl⟩
theorem dc_T_readItem_44 : decode prog_7_method_4_code 44 = .ok (.aload_n 0, 1) ∧ 44 + 1 = 45 := ⟨by decide +kernel, rfl⟩
theorem dc_T_readItem_45 : decode prog_7_method_4_code 45 = .ok (.sipush (-20000), 3) ∧ 45 + 3 = 48 := ⟨by decide +kernel, rfl⟩
theorem dc_T_readItem_48 : decode prog_7_method_4_code 48 = .ok (.sipush 20000, 3) ∧ 48 + 3 = 51 := ⟨by decide +kernel, rfl⟩
theorem dc_T_readItem_51 : decode prog_7_method_4_code 51 = .ok (.iconst 1, 1) ∧ 51 + 1 = 52 := ⟨by decide +kernel, rfl⟩
theorem dc_T_readItem_52 : decode prog_7_method_4_code 52 = .ok (.invokevirtual 43, 3) ∧ 52 + 3 = 55 := ⟨by decide +kernel, rfl⟩
theorem dc_T_readItem_55 : decode prog_7_method_4_code 55 = .ok (.istore 4, 2) ∧ 55 + 2 = 57 := ⟨by decide +kernel, rfl⟩
theorem dc_T_readItem_57 : decode prog_7_method_4_code 57 = .ok (.aload_n 0, 1) ∧ 57 + 1 = 58 := ⟨by decide +kernel, rfl⟩
theorem dc_T_readItem_58 : decode prog_7_method_4_code 58 = .ok (.bipush 58, 2) ∧ 58 + 2 = 60 := ⟨by decide +kernel, rfl⟩
theorem dc_T_readItem_60 : decode prog_7_method_4_code 60 = .ok (.invokevirtual 47, 3) ∧ 60 + 3 = 63 := ⟨by decide +kernel, rfl⟩
theorem dc_T_readItem_63 : decode prog_7_method_4_code 63 = .ok (.aload_n 0, 1) ∧ 63 + 1 = 64 := ⟨by decide +kernel, rfl⟩
theorem dc_T_readItem_64 : decode prog_7_method_4_code 64 = .ok (.iload_n 3, 1) ∧ 64 + 1 = 65 := ⟨by decide +kernel, rfl⟩
theorem dc_T_readItem_65 : decode prog_7_method_4_code 65 = .ok (.iload 4, 2) ∧ 65 + 2 = 67 := ⟨by decide +kernel, rfl⟩
theorem dc_T_readItem_67 : decode prog_7_method_4_code 67 = .ok (.invokestatic 51, 3) ∧ 67 + 3 = 70 := ⟨by decide +kernel, rfl⟩
theorem dc_T_readItem_70 : decode prog_7_method_4_code 70 = .ok (.iload_n 3, 1) ∧ 70 + 1 = 71 := ⟨by decide +kernel, rfl⟩
theorem dc_T_readItem_71 : decode prog_7_method_4_code 71 = .ok (.invokestatic 55, 3) ∧ 71 + 3 = 74 := ⟨by decide +kernel, rfl⟩
theorem dc_T_readItem_74 : decode prog_7_method_4_code 74 = .ok (.iload_n 3, 1) ∧ 74 + 1 = 75 := ⟨by decide +kernel, rfl⟩
theorem dc_T_readItem_75 : decode prog_7_method_4_code 75 = .ok (.bipush 108, 2) ∧ 75 + 2 = 77 := ⟨by decide +kernel, rfl⟩
theorem dc_T_readItem_77 : decode prog_7_method_4_code 77 = .ok (.if_icmp .eq 7, 3) ∧ ((77 : Nat) : Int) + (7) = ((84 : Nat) : Int) ∧ 77 + 3 = 80 := ⟨by decide +kernel, by decide, rfl⟩
theorem dc_T_readItem_80 : decode prog_7_method_4_code 80 = .ok (.iconst 1, 1) ∧ 80 + 1 = 81 := ⟨by decide +kernel, rfl⟩
theorem dc_T_readItem_81 : decode prog_7_method_4_code 81 = .ok (.goto 4, 3) ∧ ((81 : Nat) : Int) + (4) = ((85 : Nat) : Int) := ⟨by decide +kernel, by decide⟩
theorem dc_T_readItem_84 : decode prog_7_method_4_code 84 = .ok (.iconst 0, 1) ∧ 84 + 1 = 85 := ⟨by decide +kernel, rfl⟩
theorem dc_T_readItem_85 : decode prog_7_method_4_code 85 = .ok (.invokevirtual 43, 3) ∧ 85 + 3 = 88 := ⟨by decide +kernel, rfl⟩
theorem dc_T_readItem_88 : decode prog_7_method_4_code 88 = .ok (.istore 5, 2) ∧ 88 + 2 = 90 := ⟨by decide +kernel, rfl⟩
theorem dc_T_readItem_90 : decode prog_7_method_4_code 90 = .ok (.aload_n 0, 1) ∧ 90 + 1 = 91 := ⟨by decide +kernel, rfl⟩
theorem dc_T_readItem_91 : decode prog_7_method_4_code 91 = .ok (.bipush 59, 2) ∧ 91 + 2 = 93 := ⟨by decide +kernel, rfl⟩
theorem dc_T_readItem_93 : decode prog_7_method_4_code 93 = .ok (.invokevirtual 47, 3) ∧ 93 + 3 = 96 := ⟨by decide +kernel, rfl⟩
theorem dc_T_readItem_96 : decode prog_7_method_4_code 96 = .ok (.aload_n 0, 1) ∧ 96 + 1 = 97 := ⟨by decide +kernel, rfl⟩
theorem dc_T_readItem_97 : decode prog_7_method_4_code 97 = .ok (.getfield 22, 3) ∧ 97 + 3 = 100 := ⟨by decide +kernel, rfl⟩
theorem dc_T_readItem_100 : decode prog_7_method_4_code 100 = .ok (.iconst (-1), 1) ∧ 100 + 1 = 101 := ⟨by decide +kernel, rfl⟩
theorem dc_T_readItem_101 : decode prog_7_method_4_code 101 = .ok (.if_icmp .ne 14, 3) ∧ ((101 : Nat) : Int) + (14) = ((115 : Nat) : Int) ∧ 101 + 3 = 104 := ⟨by decide +kernel, by decide, rfl⟩
theorem dc_T_readItem_104 : decode prog_7_method_4_code 104 = .ok (.aload_n 0, 1) ∧ 104 + 1 = 105 := ⟨by decide +kernel, rfl⟩
theorem dc_T_readItem_105 : decode prog_7_method_4_code 105 = .ok (.aload_n 1, 1) ∧ 105 + 1 = 106 := ⟨by decide +kernel, rfl⟩
theorem dc_T_readItem_106 : decode prog_7_method_4_code 106 = .ok (.iload_n 3, 1) ∧ 106 + 1 = 107 := ⟨by decide +kernel, rfl⟩
theorem dc_T_readItem_107 : decode prog_7_method_4_code 107 = .ok (.iload 4, 2) ∧ 107 + 2 = 109 := ⟨by decide +kernel, rfl⟩
theorem dc_T_readItem_109 : decode prog_7_method_4_code 109 = .ok (.iload 5, 2) ∧ 109 + 2 = 111 := ⟨by decide +kernel, rfl⟩
theorem dc_T_readItem_111 : decode prog_7_method_4_code 111 = .ok (.iload_n 2, 1) ∧ 111 + 1 = 112 := ⟨by decide +kernel, rfl⟩
theorem dc_T_readItem_112 : decode prog_7_method_4_code 112 = .ok (.invokevirtual 59, 3) ∧ 112 + 3 = 115 := ⟨by decide +kernel, rfl⟩
theorem dc_T_readItem_115 : decode prog_7_method_4_code 115 = .ok (.return_, 1) := by decide +kernel
theorem dc_T_readNumber_0 : decode prog_7_method_8_code 0 = .ok (.aload_n 0, 1) ∧ 0 + 1 = 1 := ⟨by decide +kernel, rfl⟩
theorem dc_T_readNumber_1 : decode prog_7_method_8_code 1 = .ok (.getfield 22, 3) ∧ 1 + 3 = 4 := ⟨by decide +kernel, rfl⟩
theorem dc_T_readNumber_4 : decode prog_7_method_8_code 4 = .ok (.iconst (-1), 1) ∧ 4 + 1 = 5 := ⟨by decide +kernel, rfl⟩
theorem dc_T_readNumber_5 : decode prog_7_method_8_code 5 = .ok (.if_icmp .eq 5, 3) ∧ ((5 : Nat) : Int) + (5) = ((10 : Nat) : Int) ∧ 5 + 3 = 8 := ⟨by decide +kernel, by decide, rfl⟩
theorem dc_T_readNumber_8 : decode prog_7_method_8_code 8 = .ok (.iconst 0, 1) ∧ 8 + 1 = 9 := ⟨by decide +kernel, rfl⟩
theorem dc_T_readNumber_9 : decode prog_7_method_8_code 9 = .ok (.ireturn, 1) := by decide +kernel
theorem dc_T_readNumber_10 : decode prog_7_method_8_code 10 = .ok (.aload_n 0, 1) ∧ 10 + 1 = 11 := ⟨by decide +kernel, rfl⟩
theorem dc_T_readNumber_11 : decode prog_7_method_8_code 11 = .ok (.invokevirtual 31, 3) ∧ 11 + 3 = 14 := ⟨by decide +kernel, rfl⟩
theorem dc_T_readNumber_14 : decode prog_7_method_8_code 14 = .ok (.iload_n 3, 1) ∧ 14 + 1 = 15 := ⟨by decide +kernel, rfl⟩
theorem dc_T_readNumber_15 : decode prog_7_method_8_code 15 = .ok (.ifCond .eq 16, 3) ∧ ((15 : Nat) : Int) + (16) = ((31 : Nat) : Int) ∧ 15 + 3 = 18 := ⟨by decide +kernel, by decide, rfl⟩
theorem dc_T_readNumber_18 : decode prog_7_method_8_code 18 = .ok (.aload_n 0, 1) ∧ 18 + 1 = 19 := ⟨by decide +kernel, rfl⟩
theorem dc_T_readNumber_19 : decode prog_7_method_8_code 19 = .ok (.invokevirtual 39, 3) ∧ 19 + 3 = 22 := ⟨by decide +kernel, rfl⟩
theorem dc_T_readNumber_22 : decode prog_7_method_8_code 22 = .ok (.bipush 45, 2) ∧ 22 + 2 = 24 := ⟨by decide +kernel, rfl⟩
theorem dc_T_readNumber_24 : decode prog_7_method_8_code 24 = .ok (.if_icmp .ne 7, 3) ∧ ((24 : Nat) : Int) + (7) = ((31 : Nat) : Int) ∧ 24 + 3 = 27 := ⟨by decide +kernel, by decide, rfl⟩
theorem dc_T_readNumber_27 : decode prog_7_method_8_code 27 = .ok (.iconst 1, 1) ∧ 27 + 1 = 28 := ⟨by decide +kernel, rfl⟩
theorem dc_T_readNumber_28 : decode prog_7_method_8_code 28 = .ok (.goto 4, 3) ∧ ((28 : Nat) : Int) + (4) = ((32 : Nat) : Int) := ⟨by decide +kernel, by decide⟩
theorem dc_T_readNumber_31 : decode prog_7_method_8_code 31 = .ok (.iconst 0, 1) ∧ 31 + 1 = 32 := ⟨by decide +kernel, rfl⟩
theorem dc_T_readNumber_32 : decode prog_7_method_8_code 32 = .ok (.istore 4, 2) ∧ 32 + 2 = 34 := ⟨by decide +kernel, rfl⟩
theorem dc_T_readNumber_34 : decode prog_7_method_8_code 34 = .ok (.iload 4, 2) ∧ 34 + 2 = 36 := ⟨by decide +kernel, rfl⟩
theorem dc_T_readNumber_36 : decode prog_7_method_8_code 36 = .ok (.ifCond .eq 17, 3) ∧ ((36 : Nat) : Int) + (17) = ((53 : Nat) : Int) ∧ 36 + 3 = 39 := ⟨by decide +kernel, by decide, rfl⟩
theorem dc_T_readNumber_39 : decode prog_7_method_8_code 39 = .ok (.aload_n 0, 1) ∧ 39 + 1 = 40 := ⟨by decide +kernel, rfl⟩
theorem dc_T_readNumber_40 : decode prog_7_method_8_code 40 = .ok (.dup, 1) ∧ 40 + 1 = 41 := ⟨by decide +kernel, rfl⟩
theorem dc_T_readNumber_41 : decode prog_7_method_8_code 41 = .ok (.getfield 19, 3) ∧ 41 + 3 = 44 := ⟨by decide +kernel, rfl⟩
theorem dc_T_readNumber_44 : decode prog_7_method_8_code 44 = .ok (.iconst 1, 1) ∧ 44 + 1 = 45 := ⟨by decide +kernel, rfl⟩
theorem dc_T_readNumber_45 : decode prog_7_method_8_code 45 = .ok (.iadd, 1) ∧ 45 + 1 = 46 := ⟨by decide +kernel, rfl⟩
theorem dc_T_readNumber_46 : decode prog_7_method_8_code 46 = .ok (.putfield 19, 3) ∧ 46 + 3 = 49 := ⟨by decide +kernel, rfl⟩
theorem dc_T_readNumber_49 : decode prog_7_method_8_code 49 = .ok (.aload_n 0, 1) ∧ 49 + 1 = 50 := ⟨by decide +kernel, rfl⟩
theorem dc_T_readNumber_50 : decode prog_7_method_8_code 50 = .ok (.invokevirtual 31, 3) ∧ 50 + 3 = 53 := ⟨by decide +kernel, rfl⟩
theorem dc_T_readNumber_53 : decode prog_7_method_8_code 53 = .ok (.aload_n 0, 1) ∧ 53 + 1 = 54 := ⟨by decide +kernel, rfl⟩
theorem dc_T_readNumber_54 : decode prog_7_method_8_code 54 = .ok (.getfield 19, 3) ∧ 54 + 3 = 57 := ⟨by decide +kernel, rfl⟩
theorem dc_T_readNumber_57 : decode prog_7_method_8_code 57 = .ok (.istore 5, 2) ∧ 57 + 2 = 59 := ⟨by decide +kernel, rfl⟩
theorem dc_T_readNumber_59 : decode prog_7_method_8_code 59 = .ok (.aload_n 0, 1) ∧ 59 + 1 = 60 := ⟨by decide +kernel, rfl⟩
theorem dc_T_readNumber_60 : decode prog_7_method_8_code 60 = .ok (.invokevirtual 84, 3) ∧ 60 + 3 = 63 := ⟨by decide +kernel, rfl⟩
theorem dc_T_readNumber_63 : decode prog_7_method_8_code 63 = .ok (.istore 6, 2) ∧ 63 + 2 = 65 := ⟨by decide +kernel, rfl⟩
theorem dc_T_readNumber_65 : decode prog_7_method_8_code 65 = .ok (.iload 4, 2) ∧ 65 + 2 = 67 := ⟨by decide +kernel, rfl⟩
theorem dc_T_readNumber_67 : decode prog_7_method_8_code 67 = .ok (.ifCond .eq 8, 3) ∧ ((67 : Nat) : Int) + (8) = ((75 : Nat) : Int) ∧ 67 + 3 = 70 := ⟨by decide +kernel, by decide, rfl⟩
theorem dc_T_readNumber_70 : decode prog_7_method_8_code 70 = .ok (.iload 6, 2) ∧ 70 + 2 = 72 := ⟨by decide +kernel, rfl⟩
theorem dc_T_readNumber_72 : decode prog_7_method_8_code 72 = .ok (.ineg, 1) ∧ 72 + 1 = 73 := ⟨by decide +kernel, rfl⟩
theorem dc_T_readNumber_73 : decode prog_7_method_8_code 73 = .ok (.istore 6, 2) ∧ 73 + 2 = 75 := ⟨by decide +kernel, rfl⟩
theorem dc_T_readNumber_75 : decode prog_7_method_8_code 75 = .ok (.aload_n 0, 1) ∧ 75 + 1 = 76 := ⟨by decide +kernel, rfl⟩
theorem dc_T_readNumber_76 : decode prog_7_method_8_code 76 = .ok (.getfield 19, 3) ∧ 76 + 3 = 79 := ⟨by decide +kernel, rfl⟩
theorem dc_T_readNumber_79 : decode prog_7_method_8_code 79 = .ok (.iload 5, 2) ∧ 79 + 2 = 81 := ⟨by decide +kernel, rfl⟩
theorem dc_T_readNumber_81 : decode prog_7_method_8_code 81 = .ok (.isub, 1) ∧ 81 + 1 = 82 := ⟨by decide +kernel, rfl⟩
theorem dc_T_readNumber_82 : decode prog_7_method_8_code 82 = .ok (.istore 7, 2) ∧ 82 + 2 = 84 := ⟨by decide +kernel, rfl⟩
theorem dc_T_readNumber_84 : decode prog_7_method_8_code 84 = .ok (.iload 7, 2) ∧ 84 + 2 = 86 := ⟨by decide +kernel, rfl⟩
theorem dc_T_readNumber_86 : decode prog_7_method_8_code 86 = .ok (.iconst 1, 1) ∧ 86 + 1 = 87 := ⟨by decide +kernel, rfl⟩
theorem dc_T_readNumber_87 : decode prog_7_method_8_code 87 = .ok (.if_icmp .le 21, 3) ∧ ((87 : Nat) : Int) + (21) = ((108 : Nat) : Int) ∧ 87 + 3 = 90 := ⟨by decide +kernel, by decide, rfl⟩
theorem dc_T_readNumber_90 : decode prog_7_method_8_code 90 = .ok (.aload_n 0, 1) ∧ 90 + 1 = 91 := ⟨by decide +kernel, rfl⟩
theorem dc_T_readNumber_91 : decode prog_7_method_8_code 91 = .ok (.getfield 11, 3) ∧ 91 + 3 = 94 := ⟨by decide +kernel, rfl⟩
theorem dc_T_readNumber_94 : decode prog_7_method_8_code 94 = .ok (.iload 5, 2) ∧ 94 + 2 = 96 := ⟨by decide +kernel, rfl⟩
theorem dc_T_readNumber_96 : decode prog_7_method_8_code 96 = .ok (.invokestatic 87, 3) ∧ 96 + 3 = 99 := ⟨by decide +kernel, rfl⟩
theorem dc_T_readNumber_99 : decode prog_7_method_8_code 99 = .ok (.bipush 48, 2) ∧ 99 + 2 = 101 := ⟨by decide +kernel, rfl⟩
theorem dc_T_readNumber_101 : decode prog_7_method_8_code 101 = .ok (.if_icmp .ne 7, 3) ∧ ((101 : Nat) : Int) + (7) = ((108 : Nat) : Int) ∧ 101 + 3 = 104 := ⟨by decide +kernel, by decide, rfl⟩
theorem dc_T_readNumber_104 : decode prog_7_method_8_code 104 = .ok (.iconst 1, 1) ∧ 104 + 1 = 105 := ⟨by decide +kernel, rfl⟩
theorem dc_T_readNumber_105 : decode prog_7_method_8_code 105 = .ok (.goto 4, 3) ∧ ((105 : Nat) : Int) + (4) = ((109 : Nat) : Int) := ⟨by decide +kernel, by decide⟩
theorem dc_T_readNumber_108 : decode prog_7_method_8_code 108 = .ok (.iconst 0, 1) ∧ 108 + 1 = 109 := ⟨by decide +kernel, rfl⟩
theorem dc_T_readNumber_109 : decode prog_7_method_8_code 109 = .ok (.istore 8, 2) ∧ 109 + 2 = 111 := ⟨by decide +kernel, rfl⟩
theorem dc_T_readNumber_111 : decode prog_7_method_8_code 111 = .ok (.iload 7, 2) ∧ 111 + 2 = 113 := ⟨by decide +kernel, rfl⟩
theorem dc_T_readNumber_113 : decode prog_7_method_8_code 113 = .ok (.ifCond .le 29, 3) ∧ ((113 : Nat) : Int) + (29) = ((142 : Nat) : Int) ∧ 113 + 3 = 116 := ⟨by decide +kernel, by decide, rfl⟩
theorem dc_T_readNumber_116 : decode prog_7_method_8_code 116 = .ok (.iload 8, 2) ∧ 116 + 2 = 118 := ⟨by decide +kernel, rfl⟩
theorem dc_T_readNumber_118 : decode prog_7_method_8_code 118 = .ok (.ifCond .ne 15, 3) ∧ ((118 : Nat) : Int) + (15) = ((133 : Nat) : Int) ∧ 118 + 3 = 121 := ⟨by decide +kernel, by decide, rfl⟩
theorem dc_T_readNumber_121 : decode prog_7_method_8_code 121 = .ok (.iload 6, 2) ∧ 121 + 2 = 123 := ⟨by decide +kernel, rfl⟩
theorem dc_T_readNumber_123 : decode prog_7_method_8_code 123 = .ok (.iload_n 1, 1) ∧ 123 + 1 = 124 := ⟨by decide +kernel, rfl⟩
theorem dc_T_readNumber_124 : decode prog_7_method_8_code 124 = .ok (.if_icmp .lt 9, 3) ∧ ((124 : Nat) : Int) + (9) = ((133 : Nat) : Int) ∧ 124 + 3 = 127 := ⟨by decide +kernel, by decide, rfl⟩
theorem dc_T_readNumber_127 : decode prog_7_method_8_code 127 = .ok (.iload 6, 2) ∧ 127 + 2 = 129 := ⟨by decide +kernel, rfl⟩
theorem dc_T_readNumber_129 : decode prog_7_method_8_code 129 = .ok (.iload_n 2, 1) ∧ 129 + 1 = 130 := ⟨by decide +kernel, rfl⟩
theorem dc_T_readNumber_130 : decode prog_7_method_8_code 130 = .ok (.if_icmp .le 12, 3) ∧ ((130 : Nat) : Int) + (12) = ((142 : Nat) : Int) ∧ 130 + 3 = 133 := ⟨by decide +kernel, by decide, rfl⟩
theorem dc_T_readNumber_133 : decode prog_7_method_8_code 133 = .ok (.aload_n 0, 1) ∧ 133 + 1 = 134 := ⟨by decide +kernel, rfl⟩
theorem dc_T_readNumber_134 : decode prog_7_method_8_code 134 = .ok (.iload 5, 2) ∧ 134 + 2 = 136 := ⟨by decide +kernel, rfl⟩
theorem dc_T_readNumber_136 : decode prog_7_method_8_code 136 = .ok (.putfield 22, 3) ∧ 136 + 3 = 139 := ⟨by decide +kernel, rfl⟩
theorem dc_T_readNumber_139 : decode prog_7_method_8_code 139 = .ok (.goto 26, 3) ∧ ((139 : Nat) : Int) + (26) = ((165 : Nat) : Int) := ⟨by decide +kernel, by decide⟩
theorem dc_T_readNumber_142 : decode prog_7_method_8_code 142 = .ok (.iload 7, 2) ∧ 142 + 2 = 144 := ⟨by decide +kernel, rfl⟩
theorem dc_T_readNumber_144 : decode prog_7_method_8_code 144 = .ok (.ifCond .eq 13, 3) ∧ ((144 : Nat) : Int) + (13) = ((157 : Nat) : Int) ∧ 144 + 3 = 147 := ⟨by decide +kernel, by decide, rfl⟩
theorem dc_T_readNumber_147 : decode prog_7_method_8_code 147 = .ok (.aload_n 0, 1) ∧ 147 + 1 = 148 := ⟨by decide +kernel, rfl⟩
theorem dc_T_readNumber_148 : decode prog_7_method_8_code 148 = .ok (.invokevirtual 39, 3) ∧ 148 + 3 = 151 := ⟨by decide +kernel, rfl⟩
theorem dc_T_readNumber_151 : decode prog_7_method_8_code 151 = .ok (.invokestatic 91, 3) ∧ 151 + 3 = 154 := ⟨by decide +kernel, rfl⟩
theorem dc_T_readNumber_154 : decode prog_7_method_8_code 154 = .ok (.ifCond .eq 11, 3) ∧ ((154 : Nat) : Int) + (11) = ((165 : Nat) : Int) ∧ 154 + 3 = 157 := ⟨by decide +kernel, by decide, rfl⟩
theorem dc_T_readNumber_157 : decode prog_7_method_8_code 157 = .ok (.aload_n 0, 1) ∧ 157 + 1 = 158 := ⟨by decide +kernel, rfl⟩
theorem dc_T_readNumber_158 : decode prog_7_method_8_code 158 = .ok (.aload_n 0, 1) ∧ 158 + 1 = 159 := ⟨by decide +kernel, rfl⟩
theorem dc_T_readNumber_159 : decode prog_7_method_8_code 159 = .ok (.getfield 19, 3) ∧ 159 + 3 = 162 := ⟨by decide +kernel, rfl⟩
theorem dc_T_readNumber_162 : decode prog_7_method_8_code 162 = .ok (.putfield 22, 3) ∧ 162 + 3 = 165 := ⟨by decide +kernel, rfl⟩
theorem dc_T_readNumber_165 : decode prog_7_method_8_code 165 = .ok (.iload 6, 2) ∧ 165 + 2 = 167 := ⟨by decide +kernel, rfl⟩
theorem dc_T_readNumber_167 : decode prog_7_method_8_code 167 = .ok (.ireturn, 1) := by decide +kernel
theorem dc_T_readDigits_0 : decode prog_7_method_9_code 0 = .ok (.iconst 0, 1) ∧ 0 + 1 = 1 := ⟨by decide +kernel, rfl⟩
theorem dc_T_readDigits_1 : decode prog_7_method_9_code 1 = .ok (.istore_n 1, 1) ∧ 1 + 1 = 2 := ⟨by decide +kernel, rfl⟩
theorem dc_T_readDigits_2 : decode prog_7_method_9_code 2 = .ok (.iconst 0, 1) ∧ 2 + 1 = 3 := ⟨by decide +kernel, rfl⟩
theorem dc_T_readDigits_3 : decode prog_7_method_9_code 3 = .ok (.istore_n 2, 1) ∧ 3 + 1 = 4 := ⟨by decide +kernel, rfl⟩
theorem dc_T_readDigits_4 : decode prog_7_method_9_code 4 = .ok (.iload_n 2, 1) ∧ 4 + 1 = 5 := ⟨by decide +kernel, rfl⟩
theorem dc_T_readDigits_5 : decode prog_7_method_9_code 5 = .ok (.iconst 5, 1) ∧ 5 + 1 = 6 := ⟨by decide +kernel, rfl⟩
theorem dc_T_readDigits_6 : decode prog_7_method_9_code 6 = .ok (.if_icmp .ge 42, 3) ∧ ((6 : Nat) : Int) + (42) = ((48 : Nat) : Int) ∧ 6 + 3 = 9 := ⟨by decide +kernel, by decide, rfl⟩
theorem dc_T_readDigits_9 : decode prog_7_method_9_code 9 = .ok (.aload_n 0, 1) ∧ 9 + 1 = 10 := ⟨by decide +kernel, rfl⟩
theorem dc_T_readDigits_10 : decode prog_7_method_9_code 10 = .ok (.invokevirtual 39, 3) ∧ 10 + 3 = 13 := ⟨by decide +kernel, rfl⟩
theorem dc_T_readDigits_13 : decode prog_7_method_9_code 13 = .ok (.invokestatic 91, 3) ∧ 13 + 3 = 16 := ⟨by decide +kernel, rfl⟩
theorem dc_T_readDigits_16 : decode prog_7_method_9_code 16 = .ok (.ifCond .eq 32, 3) ∧ ((16 : Nat) : Int) + (32) = ((48 : Nat) : Int) ∧ 16 + 3 = 19 := ⟨by decide +kernel, by decide, rfl⟩
theorem dc_T_readDigits_19 : decode prog_7_method_9_code 19 = .ok (.iload_n 1, 1) ∧ 19 + 1 = 20 := ⟨by decide +kernel, rfl⟩
theorem dc_T_readDigits_20 : decode prog_7_method_9_code 20 = .ok (.bipush 10, 2) ∧ 20 + 2 = 22 := ⟨by decide +kernel, rfl⟩
theorem dc_T_readDigits_22 : decode prog_7_method_9_code 22 = .ok (.imul, 1) ∧ 22 + 1 = 23 := ⟨by decide +kernel, rfl⟩
theorem dc_T_readDigits_23 : decode prog_7_method_9_code 23 = .ok (.aload_n 0, 1) ∧ 23 + 1 = 24 := ⟨by decide +kernel, rfl⟩
theorem dc_T_readDigits_24 : decode prog_7_method_9_code 24 = .ok (.invokevirtual 39, 3) ∧ 24 + 3 = 27 := ⟨by decide +kernel, rfl⟩
theorem dc_T_readDigits_27 : decode prog_7_method_9_code 27 = .ok (.iadd, 1) ∧ 27 + 1 = 28 := ⟨by decide +kernel, rfl⟩
theorem dc_T_readDigits_28 : decode prog_7_method_9_code 28 = .ok (.bipush 48, 2) ∧ 28 + 2 = 30 := ⟨by decide +kernel, rfl⟩
theorem dc_T_readDigits_30 : decode prog_7_method_9_code 30 = .ok (.isub, 1) ∧ 30 + 1 = 31 := ⟨by decide +kernel, rfl⟩
theorem dc_T_readDigits_31 : decode prog_7_method_9_code 31 = .ok (.istore_n 1, 1) ∧ 31 + 1 = 32 := ⟨by decide +kernel, rfl⟩
theorem dc_T_readDigits_32 : decode prog_7_method_9_code 32 = .ok (.aload_n 0, 1) ∧ 32 + 1 = 33 := ⟨by decide +kernel, rfl⟩
theorem dc_T_readDigits_33 : decode prog_7_method_9_code 33 = .ok (.dup, 1) ∧ 33 + 1 = 34 := ⟨by decide +kernel, rfl⟩
theorem dc_T_readDigits_34 : decode prog_7_method_9_code 34 = .ok (.getfield 19, 3) ∧ 34 + 3 = 37 := ⟨by decide +kernel, rfl⟩
theorem dc_T_readDigits_37 : decode prog_7_method_9_code 37 = .ok (.iconst 1, 1) ∧ 37 + 1 = 38 := ⟨by decide +kernel, rfl⟩
theorem dc_T_readDigits_38 : decode prog_7_method_9_code 38 = .ok (.iadd, 1) ∧ 38 + 1 = 39 := ⟨by decide +kernel, rfl⟩
theorem dc_T_readDigits_39 : decode prog_7_method_9_code 39 = .ok (.putfield 19, 3) ∧ 39 + 3 = 42 := ⟨by decide +kernel, rfl⟩
theorem dc_T_readDigits_42 : decode prog_7_method_9_code 42 = .ok (.iinc 2 1, 3) ∧ 42 + 3 = 45 := ⟨by decide +kernel, rfl⟩
theorem dc_T_readDigits_45 : decode prog_7_method_9_code 45 = .ok (.goto (-41), 3) ∧ ((45 : Nat) : Int) + (-41) = ((4 : Nat) : Int) := ⟨by decide +kernel, by decide⟩
theorem dc_T_readDigits_48 : decode prog_7_method_9_code 48 = .ok (.iload_n 1, 1) ∧ 48 + 1 = 49 := ⟨by decide +kernel, rfl⟩
theorem dc_T_readDigits_49 : decode prog_7_method_9_code 49 = .ok (.ireturn, 1) := by decide +kernel
theorem dc_T_isDigit_0 : decode prog_7_method_13_code 0 = .ok (.iload_n 0, 1) ∧ 0 + 1 = 1 := ⟨by decide +kernel, rfl⟩
theorem dc_T_isDigit_1 : decode prog_7_method_13_code 1 = .ok (.bipush 48, 2) ∧ 1 + 2 = 3 := ⟨by decide +kernel, rfl⟩
theorem dc_T_isDigit_3 : decode prog_7_method_13_code 3 = .ok (.if_icmp .lt 13, 3) ∧ ((3 : Nat) : Int) + (13) = ((16 : Nat) : Int) ∧ 3 + 3 = 6 := ⟨by decide +kernel, by decide, rfl⟩
theorem dc_T_isDigit_6 : decode prog_7_method_13_code 6 = .ok (.iload_n 0, 1) ∧ 6 + 1 = 7 := ⟨by decide +kernel, rfl⟩
theorem dc_T_isDigit_7 : decode prog_7_method_13_code 7 = .ok (.bipush 57, 2) ∧ 7 + 2 = 9 := ⟨by decide +kernel, rfl⟩
theorem dc_T_isDigit_9 : decode prog_7_method_13_code 9 = .ok (.if_icmp .gt 7, 3) ∧ ((9 : Nat) : Int) + (7) = ((16 : Nat) : Int) ∧ 9 + 3 = 12 := ⟨by decide +kernel, by decide, rfl⟩
theorem dc_T_isDigit_12 : decode prog_7_method_13_code 12 = .ok (.iconst 1, 1) ∧ 12 + 1 = 13 := ⟨by decide +kernel, rfl⟩
theorem dc_T_isDigit_13 : decode prog_7_method_13_code 13 = .ok (.goto 4, 3) ∧ ((13 : Nat) : Int) + (4) = ((17 : Nat) : Int) := ⟨by decide +kernel, by decide⟩
theorem dc_T_isDigit_16 : decode prog_7_method_13_code 16 = .ok (.iconst 0, 1) ∧ 16 + 1 = 17 := ⟨by decide +kernel, rfl⟩
theorem dc_T_isDigit_17 : decode prog_7_method_13_code 17 = .ok (.ireturn, 1) := by decide +kernel
theorem dc_T_expect_0 : decode prog_7_method_10_code 0 = .ok (.aload_n 0, 1) ∧ 0 + 1 = 1 := ⟨by decide +kernel, rfl⟩
theorem dc_T_expect_1 : decode prog_7_method_10_code 1 = .ok (.getfield 22, 3) ∧ 1 + 3 = 4 := ⟨by decide +kernel, rfl⟩
theorem dc_T_expect_4 : decode prog_7_method_10_code 4 = .ok (.iconst (-1), 1) ∧ 4 + 1 = 5 := ⟨by decide +kernel, rfl⟩
theorem dc_T_expect_5 : decode prog_7_method_10_code 5 = .ok (.if_icmp .eq 4, 3) ∧ ((5 : Nat) : Int) + (4) = ((9 : Nat) : Int) ∧ 5 + 3 = 8 := ⟨by decide +kernel, by decide, rfl⟩
theorem dc_T_expect_8 : decode prog_7_method_10_code 8 = .ok (.return_, 1) := by decide +kernel
theorem dc_T_expect_9 : decode prog_7_method_10_code 9 = .ok (.aload_n 0, 1) ∧ 9 + 1 = 10 := ⟨by decide +kernel, rfl⟩
theorem dc_T_expect_10 : decode prog_7_method_10_code 10 = .ok (.invokevirtual 31, 3) ∧ 10 + 3 = 13 := ⟨by decide +kernel, rfl⟩
theorem dc_T_expect_13 : decode prog_7_method_10_code 13 = .ok (.aload_n 0, 1) ∧ 13 + 1 = 14 := ⟨by decide +kernel, rfl⟩
theorem dc_T_expect_14 : decode prog_7_method_10_code 14 = .ok (.invokevirtual 39, 3) ∧ 14 + 3 = 17 := ⟨by decide +kernel, rfl⟩
theorem dc_T_expect_17 : decode prog_7_method_10_code 17 = .ok (.iload_n 1, 1) ∧ 17 + 1 = 18 := ⟨by decide +kernel, rfl⟩
theorem dc_T_expect_18 : decode prog_7_method_10_code 18 = .ok (.if_icmp .ne 16, 3) ∧ ((18 : Nat) : Int) + (16) = ((34 : Nat) : Int) ∧ 18 + 3 = 21 := ⟨by decide +kernel, by decide, rfl⟩
theorem dc_T_expect_21 : decode prog_7_method_10_code 21 = .ok (.aload_n 0, 1) ∧ 21 + 1 = 22 := ⟨by decide +kernel, rfl⟩
theorem dc_T_expect_22 : decode prog_7_method_10_code 22 = .ok (.dup, 1) ∧ 22 + 1 = 23 := ⟨by decide +kernel, rfl⟩
theorem dc_T_expect_23 : decode prog_7_method_10_code 23 = .ok (.getfield 19, 3) ∧ 23 + 3 = 26 := ⟨by decide +kernel, rfl⟩
theorem dc_T_expect_26 : decode prog_7_method_10_code 26 = .ok (.iconst 1, 1) ∧ 26 + 1 = 27 := ⟨by decide +kernel, rfl⟩
theorem dc_T_expect_27 : decode prog_7_method_10_code 27 = .ok (.iadd, 1) ∧ 27 + 1 = 28 := ⟨by decide +kernel, rfl⟩
theorem dc_T_expect_28 : decode prog_7_method_10_code 28 = .ok (.putfield 19, 3) ∧ 28 + 3 = 31 := ⟨by decide +kernel, rfl⟩
theorem dc_T_expect_31 : decode prog_7_method_10_code 31 = .ok (.goto 11, 3) ∧ ((31 : Nat) : Int) + (11) = ((42 : Nat) : Int) := ⟨by decide +kernel, by decide⟩
theorem dc_T_expect_34 : decode prog_7_method_10_code 34 = .ok (.aload_n 0, 1) ∧ 34 + 1 = 35 := ⟨by decide +kernel, rfl⟩
theorem dc_T_expect_35 : decode prog_7_method_10_code 35 = .ok (.aload_n 0, 1) ∧ 35 + 1 = 36 := ⟨by decide +kernel, rfl⟩
theorem dc_T_expect_36 : decode prog_7_method_10_code 36 = .ok (.getfield 19, 3) ∧ 36 + 3 = 39 := ⟨by decide +kernel, rfl⟩
theorem dc_T_expect_39 : decode prog_7_method_10_code 39 = .ok (.putfield 22, 3) ∧ 39 + 3 = 42 := ⟨by decide +kernel, rfl⟩
theorem dc_T_expect_42 : decode prog_7_method_10_code 42 = .ok (.return_, 1) := by decide +kernel
theorem dc_T_leastSecond_0 : decode prog_7_method_5_code 0 = .ok (.iload_n 0, 1) ∧ 0 + 1 = 1 := ⟨by decide +kernel, rfl⟩
theorem dc_T_leastSecond_1 : decode prog_7_method_5_code 1 = .ok (.bipush 108, 2) ∧ 1 + 2 = 3 := ⟨by decide +kernel, rfl⟩
theorem dc_T_leastSecond_3 : decode prog_7_method_5_code 3 = .ok (.if_icmp .ne 5, 3) ∧ ((3 : Nat) : Int) + (5) = ((8 : Nat) : Int) ∧ 3 + 3 = 6 := ⟨by decide +kernel, by decide, rfl⟩
theorem dc_T_leastSecond_6 : decode prog_7_method_5_code 6 = .ok (.iconst 0, 1) ∧ 6 + 1 = 7 := ⟨by decide +kernel, rfl⟩
theorem dc_T_leastSecond_7 : decode prog_7_method_5_code 7 = .ok (.ireturn, 1) := by decide +kernel
theorem dc_T_leastSecond_8 : decode prog_7_method_5_code 8 = .ok (.iload_n 0, 1) ∧ 8 + 1 = 9 := ⟨by decide +kernel, rfl⟩
theorem dc_T_leastSecond_9 : decode prog_7_method_5_code 9 = .ok (.bipush 99, 2) ∧ 9 + 2 = 11 := ⟨by decide +kernel, rfl⟩
theorem dc_T_leastSecond_11 : decode prog_7_method_5_code 11 = .ok (.if_icmp .ne 8, 3) ∧ ((11 : Nat) : Int) + (8) = ((19 : Nat) : Int) ∧ 11 + 3 = 14 := ⟨by decide +kernel, by decide, rfl⟩
theorem dc_T_leastSecond_14 : decode prog_7_method_5_code 14 = .ok (.bipush (-99), 2) ∧ 14 + 2 = 16 := ⟨by decide +kernel, rfl⟩
theorem dc_T_leastSecond_16 : decode prog_7_method_5_code 16 = .ok (.goto 6, 3) ∧ ((16 : Nat) : Int) + (6) = ((22 : Nat) : Int) := ⟨by decide +kernel, by decide⟩
theorem dc_T_leastSecond_19 : decode prog_7_method_5_code 19 = .ok (.iload_n 1, 1) ∧ 19 + 1 = 20 := ⟨by decide +kernel, rfl⟩
theorem dc_T_leastSecond_20 : decode prog_7_method_5_code 20 = .ok (.iconst 1, 1) ∧ 20 + 1 = 21 := ⟨by decide +kernel, rfl⟩
theorem dc_T_leastSecond_21 : decode prog_7_method_5_code 21 = .ok (.iadd, 1) ∧ 21 + 1 = 22 := ⟨by decide +kernel, rfl⟩
theorem dc_T_leastSecond_22 : decode prog_7_method_5_code 22 = .ok (.ireturn, 1) := by decide +kernel
theorem dc_T_greatestSecond_0 : decode prog_7_method_6_code 0 = .ok (.iload_n 0, 1) ∧ 0 + 1 = 1 := ⟨by decide +kernel, rfl⟩
theorem dc_T_greatestSecond_1 : decode prog_7_method_6_code 1 = .ok (.bipush 108, 2) ∧ 1 + 2 = 3 := ⟨by decide +kernel, rfl⟩
theorem dc_T_greatestSecond_3 : decode prog_7_method_6_code 3 = .ok (.if_icmp .ne 7, 3) ∧ ((3 : Nat) : Int) + (7) = ((10 : Nat) : Int) ∧ 3 + 3 = 6 := ⟨by decide +kernel, by decide, rfl⟩
theorem dc_T_greatestSecond_6 : decode prog_7_method_6_code 6 = .ok (.sipush 200, 3) ∧ 6 + 3 = 9 := ⟨by decide +kernel, rfl⟩
theorem dc_T_greatestSecond_9 : decode prog_7_method_6_code 9 = .ok (.ireturn, 1) := by decide +kernel
theorem dc_T_greatestSecond_10 : decode prog_7_method_6_code 10 = .ok (.iload_n 0, 1) ∧ 10 + 1 = 11 := ⟨by decide +kernel, rfl⟩
theorem dc_T_greatestSecond_11 : decode prog_7_method_6_code 11 = .ok (.bipush 99, 2) ∧ 11 + 2 = 13 := ⟨by decide +kernel, rfl⟩
theorem dc_T_greatestSecond_13 : decode prog_7_method_6_code 13 = .ok (.if_icmp .ne 8, 3) ∧ ((13 : Nat) : Int) + (8) = ((21 : Nat) : Int) ∧ 13 + 3 = 16 := ⟨by decide +kernel, by decide, rfl⟩
theorem dc_T_greatestSecond_16 : decode prog_7_method_6_code 16 = .ok (.bipush 99, 2) ∧ 16 + 2 = 18 := ⟨by decide +kernel, rfl⟩
theorem dc_T_greatestSecond_18 : decode prog_7_method_6_code 18 = .ok (.goto 6, 3) ∧ ((18 : Nat) : Int) + (6) = ((24 : Nat) : Int) := ⟨by decide +kernel, by decide⟩
theorem dc_T_greatestSecond_21 : decode prog_7_method_6_code 21 = .ok (.sipush 20000, 3) ∧ 21 + 3 = 24 := ⟨by decide +kernel, rfl⟩
theorem dc_T_greatestSecond_24 : decode prog_7_method_6_code 24 = .ok (.ireturn, 1) := by decide +kernel
theorem dc_T_setItem_0 : decode prog_7_method_7_code 0 = .ok (.iload_n 2, 1) ∧ 0 + 1 = 1 := ⟨by decide +kernel, rfl⟩
theorem dc_T_setItem_1 : decode prog_7_method_7_code 1 = .ok (.bipush 102, 2) ∧ 1 + 2 = 3 := ⟨by decide +kernel, rfl⟩
theorem dc_T_setItem_3 : decode prog_7_method_7_code 3 = .ok (.if_icmp .ne 11, 3) ∧ ((3 : Nat) : Int) + (11) = ((14 : Nat) : Int) ∧ 3 + 3 = 6 := ⟨by decide +kernel, by decide, rfl⟩
theorem dc_T_setItem_6 : decode prog_7_method_7_code 6 = .ok (.aload_n 1, 1) ∧ 6 + 1 = 7 := ⟨by decide +kernel, rfl⟩
theorem dc_T_setItem_7 : decode prog_7_method_7_code 7 = .ok (.iload_n 3, 1) ∧ 7 + 1 = 8 := ⟨by decide +kernel, rfl⟩
theorem dc_T_setItem_8 : decode prog_7_method_7_code 8 = .ok (.iload 4, 2) ∧ 8 + 2 = 10 := ⟨by decide +kernel, rfl⟩
theorem dc_T_setItem_10 : decode prog_7_method_7_code 10 = .ok (.invokevirtual 63, 3) ∧ 10 + 3 = 13 := ⟨by decide +kernel, rfl⟩
theorem dc_T_setItem_13 : decode prog_7_method_7_code 13 = .ok (.return_, 1) := by decide +kernel
theorem dc_T_setItem_14 : decode prog_7_method_7_code 14 = .ok (.iload_n 2, 1) ∧ 14 + 1 = 15 := ⟨by decide +kernel, rfl⟩
theorem dc_T_setItem_15 : decode prog_7_method_7_code 15 = .ok (.bipush 108, 2) ∧ 15 + 2 = 17 := ⟨by decide +kernel, rfl⟩
theorem dc_T_setItem_17 : decode prog_7_method_7_code 17 = .ok (.if_icmp .ne 10, 3) ∧ ((17 : Nat) : Int) + (10) = ((27 : Nat) : Int) ∧ 17 + 3 = 20 := ⟨by decide +kernel, by decide, rfl⟩
theorem dc_T_setItem_20 : decode prog_7_method_7_code 20 = .ok (.aload_n 1, 1) ∧ 20 + 1 = 21 := ⟨by decide +kernel, rfl⟩
theorem dc_T_setItem_21 : decode prog_7_method_7_code 21 = .ok (.getfield 69, 3) ∧ 21 + 3 = 24 := ⟨by decide +kernel, rfl⟩
theorem dc_T_setItem_24 : decode prog_7_method_7_code 24 = .ok (.goto 7, 3) ∧ ((24 : Nat) : Int) + (7) = ((31 : Nat) : Int) := ⟨by decide +kernel, by decide⟩
theorem dc_T_setItem_27 : decode prog_7_method_7_code 27 = .ok (.aload_n 1, 1) ∧ 27 + 1 = 28 := ⟨by decide +kernel, rfl⟩
theorem dc_T_setItem_28 : decode prog_7_method_7_code 28 = .ok (.getfield 73, 3) ∧ 28 + 3 = 31 := ⟨by decide +kernel, rfl⟩
theorem dc_T_setItem_31 : decode prog_7_method_7_code 31 = .ok (.astore 6, 2) ∧ 31 + 2 = 33 := ⟨by decide +kernel, rfl⟩
theorem dc_T_setItem_33 : decode prog_7_method_7_code 33 = .ok (.aload 6, 2) ∧ 33 + 2 = 35 := ⟨by decide +kernel, rfl⟩
theorem dc_T_setItem_35 : decode prog_7_method_7_code 35 = .ok (.iload_n 3, 1) ∧ 35 + 1 = 36 := ⟨by decide +kernel, rfl⟩
theorem dc_T_setItem_36 : decode prog_7_method_7_code 36 = .ok (.invokevirtual 76, 3) ∧ 36 + 3 = 39 := ⟨by decide +kernel, rfl⟩
theorem dc_T_setItem_39 : decode prog_7_method_7_code 39 = .ok (.ifCond .eq 14, 3) ∧ ((39 : Nat) : Int) + (14) = ((53 : Nat) : Int) ∧ 39 + 3 = 42 := ⟨by decide +kernel, by decide, rfl⟩
theorem dc_T_setItem_42 : decode prog_7_method_7_code 42 = .ok (.aload 6, 2) ∧ 42 + 2 = 44 := ⟨by decide +kernel, rfl⟩
theorem dc_T_setItem_44 : decode prog_7_method_7_code 44 = .ok (.iload_n 3, 1) ∧ 44 + 1 = 45 := ⟨by decide +kernel, rfl⟩
theorem dc_T_setItem_45 : decode prog_7_method_7_code 45 = .ok (.iload 4, 2) ∧ 45 + 2 = 47 := ⟨by decide +kernel, rfl⟩
theorem dc_T_setItem_47 : decode prog_7_method_7_code 47 = .ok (.invokevirtual 82, 3) ∧ 47 + 3 = 50 := ⟨by decide +kernel, rfl⟩
theorem dc_T_setItem_50 : decode prog_7_method_7_code 50 = .ok (.goto 9, 3) ∧ ((50 : Nat) : Int) + (9) = ((59 : Nat) : Int) := ⟨by decide +kernel, by decide⟩
theorem dc_T_setItem_53 : decode prog_7_method_7_code 53 = .ok (.aload_n 0, 1) ∧ 53 + 1 = 54 := ⟨by decide +kernel, rfl⟩
theorem dc_T_setItem_54 : decode prog_7_method_7_code 54 = .ok (.iload 5, 2) ∧ 54 + 2 = 56 := ⟨by decide +kernel, rfl⟩
theorem dc_T_setItem_56 : decode prog_7_method_7_code 56 = .ok (.putfield 22, 3) ∧ 56 + 3 = 59 := ⟨by decide +kernel, rfl⟩
theorem dc_T_setItem_59 : decode prog_7_method_7_code 59 = .ok (.return_, 1) := by decide +kernel
theorem dc_F_adoptTrial_0 : decode prog_1_method_31_code 0 = .ok (.aload_n 0, 1) ∧ 0 + 1 = 1 := ⟨by decide +kernel, rfl⟩
theorem dc_F_adoptTrial_1 : decode prog_1_method_31_code 1 = .ok (.getfield 30, 3) ∧ 1 + 3 = 4 := ⟨by decide +kernel, rfl⟩
theorem dc_F_adoptTrial_4 : decode prog_1_method_31_code 4 = .ok (.aload_n 0, 1) ∧ 4 + 1 = 5 := ⟨by decide +kernel, rfl⟩
theorem dc_F_adoptTrial_5 : decode prog_1_method_31_code 5 = .ok (.getfield 10, 3) ∧ 5 + 3 = 8 := ⟨by decide +kernel, rfl⟩
theorem dc_F_adoptTrial_8 : decode prog_1_method_31_code 8 = .ok (.invokevirtual 50, 3) ∧ 8 + 3 = 11 := ⟨by decide +kernel, rfl⟩
theorem dc_F_adoptTrial_11 : decode prog_1_method_31_code 11 = .ok (.aload_n 0, 1) ∧ 11 + 1 = 12 := ⟨by decide +kernel, rfl⟩
theorem dc_F_adoptTrial_12 : decode prog_1_method_31_code 12 = .ok (.getfield 10, 3) ∧ 12 + 3 = 15 := ⟨by decide +kernel, rfl⟩
theorem dc_F_adoptTrial_15 : decode prog_1_method_31_code 15 = .ok (.aload_n 0, 1) ∧ 15 + 1 = 16 := ⟨by decide +kernel, rfl⟩
theorem dc_F_adoptTrial_16 : decode prog_1_method_31_code 16 = .ok (.getfield 16, 3) ∧ 16 + 3 = 19 := ⟨by decide +kernel, rfl⟩
theorem dc_F_adoptTrial_19 : decode prog_1_method_31_code 19 = .ok (.invokevirtual 87, 3) ∧ 19 + 3 = 22 := ⟨by decide +kernel, rfl⟩
theorem dc_F_adoptTrial_22 : decode prog_1_method_31_code 22 = .ok (.return_, 1) := by decide +kernel
theorem dc_F_moveTo_0 : decode prog_1_method_9_code 0 = .ok (.iload_n 1, 1) ∧ 0 + 1 = 1 := ⟨by decide +kernel, rfl⟩
theorem dc_F_moveTo_1 : decode prog_1_method_9_code 1 = .ok (.invokestatic 58, 3) ∧ 1 + 3 = 4 := ⟨by decide +kernel, rfl⟩
theorem dc_F_moveTo_4 : decode prog_1_method_9_code 4 = .ok (.ifCond .ne 6, 3) ∧ ((4 : Nat) : Int) + (6) = ((10 : Nat) : Int) ∧ 4 + 3 = 7 := ⟨by decide +kernel, by decide, rfl⟩
theorem dc_F_moveTo_7 : decode prog_1_method_9_code 7 = .ok (.ldc 45, 2) ∧ 7 + 2 = 9 := ⟨by decide +kernel, rfl⟩
theorem dc_F_moveTo_9 : decode prog_1_method_9_code 9 = .ok (.ireturn, 1) := by decide +kernel
theorem dc_F_moveTo_10 : decode prog_1_method_9_code 10 = .ok (.aload_n 0, 1) ∧ 10 + 1 = 11 := ⟨by decide +kernel, rfl⟩
theorem dc_F_moveTo_11 : decode prog_1_method_9_code 11 = .ok (.getfield 10, 3) ∧ 11 + 3 = 14 := ⟨by decide +kernel, rfl⟩
theorem dc_F_moveTo_14 : decode prog_1_method_9_code 14 = .ok (.iload_n 1, 1) ∧ 14 + 1 = 15 := ⟨by decide +kernel, rfl⟩
theorem dc_F_moveTo_15 : decode prog_1_method_9_code 15 = .ok (.invokevirtual 97, 3) ∧ 15 + 3 = 18 := ⟨by decide +kernel, rfl⟩
theorem dc_F_moveTo_18 : decode prog_1_method_9_code 18 = .ok (.ifCond .eq 6, 3) ∧ ((18 : Nat) : Int) + (6) = ((24 : Nat) : Int) ∧ 18 + 3 = 21 := ⟨by decide +kernel, by decide, rfl⟩
theorem dc_F_moveTo_21 : decode prog_1_method_9_code 21 = .ok (.ldc 100, 2) ∧ 21 + 2 = 23 := ⟨by decide +kernel, rfl⟩
theorem dc_F_moveTo_23 : decode prog_1_method_9_code 23 = .ok (.ireturn, 1) := by decide +kernel
theorem dc_F_moveTo_24 : decode prog_1_method_9_code 24 = .ok (.aload_n 0, 1) ∧ 24 + 1 = 25 := ⟨by decide +kernel, rfl⟩
theorem dc_F_moveTo_25 : decode prog_1_method_9_code 25 = .ok (.getfield 10, 3) ∧ 25 + 3 = 28 := ⟨by decide +kernel, rfl⟩
theorem dc_F_moveTo_28 : decode prog_1_method_9_code 28 = .ok (.getfield 101, 3) ∧ 28 + 3 = 31 := ⟨by decide +kernel, rfl⟩
theorem dc_F_moveTo_31 : decode prog_1_method_9_code 31 = .ok (.istore_n 2, 1) ∧ 31 + 1 = 32 := ⟨by decide +kernel, rfl⟩
theorem dc_F_moveTo_32 : decode prog_1_method_9_code 32 = .ok (.aload_n 0, 1) ∧ 32 + 1 = 33 := ⟨by decide +kernel, rfl⟩
theorem dc_F_moveTo_33 : decode prog_1_method_9_code 33 = .ok (.getfield 30, 3) ∧ 33 + 3 = 36 := ⟨by decide +kernel, rfl⟩
theorem dc_F_moveTo_36 : decode prog_1_method_9_code 36 = .ok (.aload_n 0, 1) ∧ 36 + 1 = 37 := ⟨by decide +kernel, rfl⟩
theorem dc_F_moveTo_37 : decode prog_1_method_9_code 37 = .ok (.getfield 10, 3) ∧ 37 + 3 = 40 := ⟨by decide +kernel, rfl⟩
theorem dc_F_moveTo_40 : decode prog_1_method_9_code 40 = .ok (.invokevirtual 50, 3) ∧ 40 + 3 = 43 := ⟨by decide +kernel, rfl⟩
theorem dc_F_moveTo_43 : decode prog_1_method_9_code 43 = .ok (.aload_n 0, 1) ∧ 43 + 1 = 44 := ⟨by decide +kernel, rfl⟩
theorem dc_F_moveTo_44 : decode prog_1_method_9_code 44 = .ok (.getfield 10, 3) ∧ 44 + 3 = 47 := ⟨by decide +kernel, rfl⟩
theorem dc_F_moveTo_47 : decode prog_1_method_9_code 47 = .ok (.iload_n 1, 1) ∧ 47 + 1 = 48 := ⟨by decide +kernel, rfl⟩
theorem dc_F_moveTo_48 : decode prog_1_method_9_code 48 = .ok (.invokevirtual 104, 3) ∧ 48 + 3 = 51 := ⟨by decide +kernel, rfl⟩
theorem dc_F_moveTo_51 : decode prog_1_method_9_code 51 = .ok (.pop, 1) ∧ 51 + 1 = 52 := ⟨by decide +kernel, rfl⟩
theorem dc_F_moveTo_52 : decode prog_1_method_9_code 52 = .ok (.aload_n 0, 1) ∧ 52 + 1 = 53 := ⟨by decide +kernel, rfl⟩
theorem dc_F_moveTo_53 : decode prog_1_method_9_code 53 = .ok (.getfield 10, 3) ∧ 53 + 3 = 56 := ⟨by decide +kernel, rfl⟩
theorem dc_F_moveTo_56 : decode prog_1_method_9_code 56 = .ok (.getfield 101, 3) ∧ 56 + 3 = 59 := ⟨by decide +kernel, rfl⟩
theorem dc_F_moveTo_59 : decode prog_1_method_9_code 59 = .ok (.iload_n 2, 1) ∧ 59 + 1 = 60 := ⟨by decide +kernel, rfl⟩
theorem dc_F_moveTo_60 : decode prog_1_method_9_code 60 = .ok (.isub, 1) ∧ 60 + 1 = 61 := ⟨by decide +kernel, rfl⟩
theorem dc_F_moveTo_61 : decode prog_1_method_9_code 61 = .ok (.ireturn, 1) := by decide +kernel
theorem dc_A_refuses_0 : decode prog_2_method_12_code 0 = .ok (.aload_n 0, 1) ∧ 0 + 1 = 1 := ⟨by decide +kernel, rfl⟩
theorem dc_A_refuses_1 : decode prog_2_method_12_code 1 = .ok (.iload_n 1, 1) ∧ 1 + 1 = 2 := ⟨by decide +kernel, rfl⟩
theorem dc_A_refuses_2 : decode prog_2_method_12_code 2 = .ok (.invokevirtual 122, 3) ∧ 2 + 3 = 5 := ⟨by decide +kernel, rfl⟩
theorem dc_A_refuses_5 : decode prog_2_method_12_code 5 = .ok (.invokestatic 125, 3) ∧ 5 + 3 = 8 := ⟨by decide +kernel, rfl⟩
theorem dc_A_refuses_8 : decode prog_2_method_12_code 8 = .ok (.ifCond .ne 7, 3) ∧ ((8 : Nat) : Int) + (7) = ((15 : Nat) : Int) ∧ 8 + 3 = 11 := ⟨by decide +kernel, by decide, rfl⟩
theorem dc_A_refuses_11 : decode prog_2_method_12_code 11 = .ok (.iconst 1, 1) ∧ 11 + 1 = 12 := ⟨by decide +kernel, rfl⟩
theorem dc_A_refuses_12 : decode prog_2_method_12_code 12 = .ok (.goto 4, 3) ∧ ((12 : Nat) : Int) + (4) = ((16 : Nat) : Int) := ⟨by decide +kernel, by decide⟩
theorem dc_A_refuses_15 : decode prog_2_method_12_code 15 = .ok (.iconst 0, 1) ∧ 15 + 1 = 16 := ⟨by decide +kernel, rfl⟩
theorem dc_A_refuses_16 : decode prog_2_method_12_code 16 = .ok (.ireturn, 1) := by decide +kernel
theorem dc_A_target_0 : decode prog_2_method_11_code 0 = .ok (.iload_n 1, 1) ∧ 0 + 1 = 1 := ⟨by decide +kernel, rfl⟩
theorem dc_A_target_1 : decode prog_2_method_11_code 1 = .ok (.aload_n 0, 1) ∧ 1 + 1 = 2 := ⟨by decide +kernel, rfl⟩
theorem dc_A_target_2 : decode prog_2_method_11_code 2 = .ok (.getfield 25, 3) ∧ 2 + 3 = 5 := ⟨by decide +kernel, rfl⟩
theorem dc_A_target_5 : decode prog_2_method_11_code 5 = .ok (.iload_n 1, 1) ∧ 5 + 1 = 6 := ⟨by decide +kernel, rfl⟩
theorem dc_A_target_6 : decode prog_2_method_11_code 6 = .ok (.invokevirtual 119, 3) ∧ 6 + 3 = 9 := ⟨by decide +kernel, rfl⟩
theorem dc_A_target_9 : decode prog_2_method_11_code 9 = .ok (.iadd, 1) ∧ 9 + 1 = 10 := ⟨by decide +kernel, rfl⟩
theorem dc_A_target_10 : decode prog_2_method_11_code 10 = .ok (.ireturn, 1) := by decide +kernel
theorem dc_P_valueBetween_0 : decode prog_4_method_7_code 0 = .ok (.aload_n 0, 1) ∧ 0 + 1 = 1 := ⟨by decide +kernel, rfl⟩
theorem dc_P_valueBetween_1 : decode prog_4_method_7_code 1 = .ok (.iload_n 1, 1) ∧ 1 + 1 = 2 := ⟨by decide +kernel, rfl⟩
theorem dc_P_valueBetween_2 : decode prog_4_method_7_code 2 = .ok (.invokevirtual 28, 3) ∧ 2 + 3 = 5 := ⟨by decide +kernel, rfl⟩
theorem dc_P_valueBetween_5 : decode prog_4_method_7_code 5 = .ok (.istore_n 2, 1) ∧ 5 + 1 = 6 := ⟨by decide +kernel, rfl⟩
theorem dc_P_valueBetween_6 : decode prog_4_method_7_code 6 = .ok (.iload_n 2, 1) ∧ 6 + 1 = 7 := ⟨by decide +kernel, rfl⟩
theorem dc_P_valueBetween_7 : decode prog_4_method_7_code 7 = .ok (.ifCond .ge 23, 3) ∧ ((7 : Nat) : Int) + (23) = ((30 : Nat) : Int) ∧ 7 + 3 = 10 := ⟨by decide +kernel, by decide, rfl⟩
theorem dc_P_valueBetween_10 : decode prog_4_method_7_code 10 = .ok (.aload_n 0, 1) ∧ 10 + 1 = 11 := ⟨by decide +kernel, rfl⟩
theorem dc_P_valueBetween_11 : decode prog_4_method_7_code 11 = .ok (.getfield 18, 3) ∧ 11 + 3 = 14 := ⟨by decide +kernel, rfl⟩
theorem dc_P_valueBetween_14 : decode prog_4_method_7_code 14 = .ok (.ifCond .le 14, 3) ∧ ((14 : Nat) : Int) + (14) = ((28 : Nat) : Int) ∧ 14 + 3 = 17 := ⟨by decide +kernel, by decide, rfl⟩
theorem dc_P_valueBetween_17 : decode prog_4_method_7_code 17 = .ok (.aload_n 0, 1) ∧ 17 + 1 = 18 := ⟨by decide +kernel, rfl⟩
theorem dc_P_valueBetween_18 : decode prog_4_method_7_code 18 = .ok (.getfield 15, 3) ∧ 18 + 3 = 21 := ⟨by decide +kernel, rfl⟩
theorem dc_P_valueBetween_21 : decode prog_4_method_7_code 21 = .ok (.iconst 0, 1) ∧ 21 + 1 = 22 := ⟨by decide +kernel, rfl⟩
theorem dc_P_valueBetween_22 : decode prog_4_method_7_code 22 = .ok (.invokestatic 36, 3) ∧ 22 + 3 = 25 := ⟨by decide +kernel, rfl⟩
theorem dc_P_valueBetween_25 : decode prog_4_method_7_code 25 = .ok (.goto 4, 3) ∧ ((25 : Nat) : Int) + (4) = ((29 : Nat) : Int) := ⟨by decide +kernel, by decide⟩
theorem dc_P_valueBetween_28 : decode prog_4_method_7_code 28 = .ok (.iconst 0, 1) ∧ 28 + 1 = 29 := ⟨by decide +kernel, rfl⟩
theorem dc_P_valueBetween_29 : decode prog_4_method_7_code 29 = .ok (.ireturn, 1) := by decide +kernel
theorem dc_P_valueBetween_30 : decode prog_4_method_7_code 30 = .ok (.aload_n 0, 1) ∧ 30 + 1 = 31 := ⟨by decide +kernel, rfl⟩
theorem dc_P_valueBetween_31 : decode prog_4_method_7_code 31 = .ok (.getfield 15, 3) ∧ 31 + 3 = 34 := ⟨by decide +kernel, rfl⟩
theorem dc_P_valueBetween_34 : decode prog_4_method_7_code 34 = .ok (.iload_n 2, 1) ∧ 34 + 1 = 35 := ⟨by decide +kernel, rfl⟩
theorem dc_P_valueBetween_35 : decode prog_4_method_7_code 35 = .ok (.invokestatic 36, 3) ∧ 35 + 3 = 38 := ⟨by decide +kernel, rfl⟩
theorem dc_P_valueBetween_38 : decode prog_4_method_7_code 38 = .ok (.istore_n 3, 1) ∧ 38 + 1 = 39 := ⟨by decide +kernel, rfl⟩
theorem dc_P_valueBetween_39 : decode prog_4_method_7_code 39 = .ok (.iload_n 2, 1) ∧ 39 + 1 = 40 := ⟨by decide +kernel, rfl⟩
theorem dc_P_valueBetween_40 : decode prog_4_method_7_code 40 = .ok (.iconst 1, 1) ∧ 40 + 1 = 41 := ⟨by decide +kernel, rfl⟩
theorem dc_P_valueBetween_41 : decode prog_4_method_7_code 41 = .ok (.iadd, 1) ∧ 41 + 1 = 42 := ⟨by decide +kernel, rfl⟩
theorem dc_P_valueBetween_42 : decode prog_4_method_7_code 42 = .ok (.aload_n 0, 1) ∧ 42 + 1 = 43 := ⟨by decide +kernel, rfl⟩
theorem dc_P_valueBetween_43 : decode prog_4_method_7_code 43 = .ok (.getfield 18, 3) ∧ 43 + 3 = 46 := ⟨by decide +kernel, rfl⟩
theorem dc_P_valueBetween_46 : decode prog_4_method_7_code 46 = .ok (.if_icmp .lt 5, 3) ∧ ((46 : Nat) : Int) + (5) = ((51 : Nat) : Int) ∧ 46 + 3 = 49 := ⟨by decide +kernel, by decide, rfl⟩
theorem dc_P_valueBetween_49 : decode prog_4_method_7_code 49 = .ok (.iload_n 3, 1) ∧ 49 + 1 = 50 := ⟨by decide +kernel, rfl⟩
theorem dc_P_valueBetween_50 : decode prog_4_method_7_code 50 = .ok (.ireturn, 1) := by decide +kernel
theorem dc_P_valueBetween_51 : decode prog_4_method_7_code 51 = .ok (.aload_n 0, 1) ∧ 51 + 1 = 52 := ⟨by decide +kernel, rfl⟩
theorem dc_P_valueBetween_52 : decode prog_4_method_7_code 52 = .ok (.getfield 11, 3) ∧ 52 + 3 = 55 := ⟨by decide +kernel, rfl⟩
theorem dc_P_valueBetween_55 : decode prog_4_method_7_code 55 = .ok (.iload_n 2, 1) ∧ 55 + 1 = 56 := ⟨by decide +kernel, rfl⟩
theorem dc_P_valueBetween_56 : decode prog_4_method_7_code 56 = .ok (.invokestatic 36, 3) ∧ 56 + 3 = 59 := ⟨by decide +kernel, rfl⟩
theorem dc_P_valueBetween_59 : decode prog_4_method_7_code 59 = .ok (.istore 4, 2) ∧ 59 + 2 = 61 := ⟨by decide +kernel, rfl⟩
theorem dc_P_valueBetween_61 : decode prog_4_method_7_code 61 = .ok (.aload_n 0, 1) ∧ 61 + 1 = 62 := ⟨by decide +kernel, rfl⟩
theorem dc_P_valueBetween_62 : decode prog_4_method_7_code 62 = .ok (.getfield 11, 3) ∧ 62 + 3 = 65 := ⟨by decide +kernel, rfl⟩
theorem dc_P_valueBetween_65 : decode prog_4_method_7_code 65 = .ok (.iload_n 2, 1) ∧ 65 + 1 = 66 := ⟨by decide +kernel, rfl⟩
theorem dc_P_valueBetween_66 : decode prog_4_method_7_code 66 = .ok (.iconst 1, 1) ∧ 66 + 1 = 67 := ⟨by decide +kernel, rfl⟩
theorem dc_P_valueBetween_67 : decode prog_4_method_7_code 67 = .ok (.iadd, 1) ∧ 67 + 1 = 68 := ⟨by decide +kernel, rfl⟩
theorem dc_P_valueBetween_68 : decode prog_4_method_7_code 68 = .ok (.invokestatic 36, 3) ∧ 68 + 3 = 71 := ⟨by decide +kernel, rfl⟩
theorem dc_P_valueBetween_71 : decode prog_4_method_7_code 71 = .ok (.iload 4, 2) ∧ 71 + 2 = 73 := ⟨by decide +kernel, rfl⟩
theorem dc_P_valueBetween_73 : decode prog_4_method_7_code 73 = .ok (.isub, 1) ∧ 73 + 1 = 74 := ⟨by decide +kernel, rfl⟩
theorem dc_P_valueBetween_74 : decode prog_4_method_7_code 74 = .ok (.istore 5, 2) ∧ 74 + 2 = 76 := ⟨by decide +kernel, rfl⟩
theorem dc_P_valueBetween_76 : decode prog_4_method_7_code 76 = .ok (.iload 5, 2) ∧ 76 + 2 = 78 := ⟨by decide +kernel, rfl⟩
theorem dc_P_valueBetween_78 : decode prog_4_method_7_code 78 = .ok (.ifCond .gt 5, 3) ∧ ((78 : Nat) : Int) + (5) = ((83 : Nat) : Int) ∧ 78 + 3 = 81 := ⟨by decide +kernel, by decide, rfl⟩
theorem dc_P_valueBetween_81 : decode prog_4_method_7_code 81 = .ok (.iload_n 3, 1) ∧ 81 + 1 = 82 := ⟨by decide +kernel, rfl⟩
theorem dc_P_valueBetween_82 : decode prog_4_method_7_code 82 = .ok (.ireturn, 1) := by decide +kernel
theorem dc_P_valueBetween_83 : decode prog_4_method_7_code 83 = .ok (.aload_n 0, 1) ∧ 83 + 1 = 84 := ⟨by decide +kernel, rfl⟩
theorem dc_P_valueBetween_84 : decode prog_4_method_7_code 84 = .ok (.getfield 15, 3) ∧ 84 + 3 = 87 := ⟨by decide +kernel, rfl⟩
theorem dc_P_valueBetween_87 : decode prog_4_method_7_code 87 = .ok (.iload_n 2, 1) ∧ 87 + 1 = 88 := ⟨by decide +kernel, rfl⟩
theorem dc_P_valueBetween_88 : decode prog_4_method_7_code 88 = .ok (.iconst 1, 1) ∧ 88 + 1 = 89 := ⟨by decide +kernel, rfl⟩
theorem dc_P_valueBetween_89 : decode prog_4_method_7_code 89 = .ok (.iadd, 1) ∧ 89 + 1 = 90 := ⟨by decide +kernel, rfl⟩
theorem dc_P_valueBetween_90 : decode prog_4_method_7_code 90 = .ok (.invokestatic 36, 3) ∧ 90 + 3 = 93 := ⟨by decide +kernel, rfl⟩
theorem dc_P_valueBetween_93 : decode prog_4_method_7_code 93 = .ok (.iload_n 3, 1) ∧ 93 + 1 = 94 := ⟨by decide +kernel, rfl⟩
theorem dc_P_valueBetween_94 : decode prog_4_method_7_code 94 = .ok (.isub, 1) ∧ 94 + 1 = 95 := ⟨by decide +kernel, rfl⟩
theorem dc_P_valueBetween_95 : decode prog_4_method_7_code 95 = .ok (.istore 6, 2) ∧ 95 + 2 = 97 := ⟨by decide +kernel, rfl⟩
theorem dc_P_valueBetween_97 : decode prog_4_method_7_code 97 = .ok (.iload_n 3, 1) ∧ 97 + 1 = 98 := ⟨by decide +kernel, rfl⟩
theorem dc_P_valueBetween_98 : decode prog_4_method_7_code 98 = .ok (.iload 6, 2) ∧ 98 + 2 = 100 := ⟨by decide +kernel, rfl⟩
theorem dc_P_valueBetween_100 : decode prog_4_method_7_code 100 = .ok (.iload_n 1, 1) ∧ 100 + 1 = 101 := ⟨by decide +kernel, rfl⟩
theorem dc_P_valueBetween_101 : decode prog_4_method_7_code 101 = .ok (.iload 4, 2) ∧ 101 + 2 = 103 := ⟨by decide +kernel, rfl⟩
theorem dc_P_valueBetween_103 : decode prog_4_method_7_code 103 = .ok (.isub, 1) ∧ 103 + 1 = 104 := ⟨by decide +kernel, rfl⟩
theorem dc_P_valueBetween_104 : decode prog_4_method_7_code 104 = .ok (.imul, 1) ∧ 104 + 1 = 105 := ⟨by decide +kernel, rfl⟩
theorem dc_P_valueBetween_105 : decode prog_4_method_7_code 105 = .ok (.iload 5, 2) ∧ 105 + 2 = 107 := ⟨by decide +kernel, rfl⟩
theorem dc_P_valueBetween_107 : decode prog_4_method_7_code 107 = .ok (.invokestatic 42, 3) ∧ 107 + 3 = 110 := ⟨by decide +kernel, rfl⟩
theorem dc_P_valueBetween_110 : decode prog_4_method_7_code 110 = .ok (.iadd, 1) ∧ 110 + 1 = 111 := ⟨by decide +kernel, rfl⟩
theorem dc_P_valueBetween_111 : decode prog_4_method_7_code 111 = .ok (.ireturn, 1) := by decide +kernel
theorem dc_J_floorDiv_0 : decode prog_11_method_47_code 0 = .ok (.iload_n 0, 1) ∧ 0 + 1 = 1 := ⟨by decide +kernel, rfl⟩
theorem dc_J_floorDiv_1 : decode prog_11_method_47_code 1 = .ok (.iload_n 1, 1) ∧ 1 + 1 = 2 := ⟨by decide +kernel, rfl⟩
theorem dc_J_floorDiv_2 : decode prog_11_method_47_code 2 = .ok (.idiv, 1) ∧ 2 + 1 = 3 := ⟨by decide +kernel, rfl⟩
theorem dc_J_floorDiv_3 : decode prog_11_method_47_code 3 = .ok (.istore_n 2, 1) ∧ 3 + 1 = 4 := ⟨by decide +kernel, rfl⟩
theorem dc_J_floorDiv_4 : decode prog_11_method_47_code 4 = .ok (.iload_n 0, 1) ∧ 4 + 1 = 5 := ⟨by decide +kernel, rfl⟩
theorem dc_J_floorDiv_5 : decode prog_11_method_47_code 5 = .ok (.iload_n 1, 1) ∧ 5 + 1 = 6 := ⟨by decide +kernel, rfl⟩
theorem dc_J_floorDiv_6 : decode prog_11_method_47_code 6 = .ok (.ixor, 1) ∧ 6 + 1 = 7 := ⟨by decide +kernel, rfl⟩
theorem dc_J_floorDiv_7 : decode prog_11_method_47_code 7 = .ok (.ifCond .ge 14, 3) ∧ ((7 : Nat) : Int) + (14) = ((21 : Nat) : Int) ∧ 7 + 3 = 10 := ⟨by decide +kernel, by decide, rfl⟩
theorem dc_J_floorDiv_10 : decode prog_11_method_47_code 10 = .ok (.iload_n 2, 1) ∧ 10 + 1 = 11 := ⟨by decide +kernel, rfl⟩
theorem dc_J_floorDiv_11 : decode prog_11_method_47_code 11 = .ok (.iload_n 1, 1) ∧ 11 + 1 = 12 := ⟨by decide +kernel, rfl⟩
theorem dc_J_floorDiv_12 : decode prog_11_method_47_code 12 = .ok (.imul, 1) ∧ 12 + 1 = 13 := ⟨by decide +kernel, rfl⟩
theorem dc_J_floorDiv_13 : decode prog_11_method_47_code 13 = .ok (.iload_n 0, 1) ∧ 13 + 1 = 14 := ⟨by decide +kernel, rfl⟩
theorem dc_J_floorDiv_14 : decode prog_11_method_47_code 14 = .ok (.if_icmp .eq 7, 3) ∧ ((14 : Nat) : Int) + (7) = ((21 : Nat) : Int) ∧ 14 + 3 = 17 := ⟨by decide +kernel, by decide, rfl⟩
theorem dc_J_floorDiv_17 : decode prog_11_method_47_code 17 = .ok (.iload_n 2, 1) ∧ 17 + 1 = 18 := ⟨by decide +kernel, rfl⟩
theorem dc_J_floorDiv_18 : decode prog_11_method_47_code 18 = .ok (.iconst 1, 1) ∧ 18 + 1 = 19 := ⟨by decide +kernel, rfl⟩
theorem dc_J_floorDiv_19 : decode prog_11_method_47_code 19 = .ok (.isub, 1) ∧ 19 + 1 = 20 := ⟨by decide +kernel, rfl⟩
theorem dc_J_floorDiv_20 : decode prog_11_method_47_code 20 = .ok (.ireturn, 1) := by decide +kernel
theorem dc_J_floorDiv_21 : decode prog_11_method_47_code 21 = .ok (.iload_n 2, 1) ∧ 21 + 1 = 22 := ⟨by decide +kernel, rfl⟩
theorem dc_J_floorDiv_22 : decode prog_11_method_47_code 22 = .ok (.ireturn, 1) := by decide +kernel
theorem dc_A_travel_0 : decode prog_2_method_13_code 0 = .ok (.iconst 0, 1) ∧ 0 + 1 = 1 := ⟨by decide +kernel, rfl⟩
theorem dc_A_travel_1 : decode prog_2_method_13_code 1 = .ok (.istore_n 2, 1) ∧ 1 + 1 = 2 := ⟨by decide +kernel, rfl⟩
theorem dc_A_travel_2 : decode prog_2_method_13_code 2 = .ok (.aload_n 0, 1) ∧ 2 + 1 = 3 := ⟨by decide +kernel, rfl⟩
theorem dc_A_travel_3 : decode prog_2_method_13_code 3 = .ok (.iload_n 1, 1) ∧ 3 + 1 = 4 := ⟨by decide +kernel, rfl⟩
theorem dc_A_travel_4 : decode prog_2_method_13_code 4 = .ok (.invokevirtual 129, 3) ∧ 4 + 3 = 7 := ⟨by decide +kernel, rfl⟩
theorem dc_A_travel_7 : decode prog_2_method_13_code 7 = .ok (.ifCond .eq 5, 3) ∧ ((7 : Nat) : Int) + (5) = ((12 : Nat) : Int) ∧ 7 + 3 = 10 := ⟨by decide +kernel, by decide, rfl⟩
theorem dc_A_travel_10 : decode prog_2_method_13_code 10 = .ok (.iload_n 2, 1) ∧ 10 + 1 = 11 := ⟨by decide +kernel, rfl⟩
theorem dc_A_travel_11 : decode prog_2_method_13_code 11 = .ok (.ireturn, 1) := by decide +kernel
theorem dc_A_travel_12 : decode prog_2_method_13_code 12 = .ok (.aload_n 0, 1) ∧ 12 + 1 = 13 := ⟨by decide +kernel, rfl⟩
theorem dc_A_travel_13 : decode prog_2_method_13_code 13 = .ok (.aload_n 0, 1) ∧ 13 + 1 = 14 := ⟨by decide +kernel, rfl⟩
theorem dc_A_travel_14 : decode prog_2_method_13_code 14 = .ok (.iload_n 1, 1) ∧ 14 + 1 = 15 := ⟨by decide +kernel, rfl⟩
theorem dc_A_travel_15 : decode prog_2_method_13_code 15 = .ok (.invokevirtual 122, 3) ∧ 15 + 3 = 18 := ⟨by decide +kernel, rfl⟩
theorem dc_A_travel_18 : decode prog_2_method_13_code 18 = .ok (.invokevirtual 132, 3) ∧ 18 + 3 = 21 := ⟨by decide +kernel, rfl⟩
theorem dc_A_travel_21 : decode prog_2_method_13_code 21 = .ok (.istore_n 3, 1) ∧ 21 + 1 = 22 := ⟨by decide +kernel, rfl⟩
theorem dc_A_travel_22 : decode prog_2_method_13_code 22 = .ok (.iload_n 3, 1) ∧ 22 + 1 = 23 := ⟨by decide +kernel, rfl⟩
theorem dc_A_travel_23 : decode prog_2_method_13_code 23 = .ok (.invokestatic 135, 3) ∧ 23 + 3 = 26 := ⟨by decide +kernel, rfl⟩
theorem dc_A_travel_26 : decode prog_2_method_13_code 26 = .ok (.istore 4, 2) ∧ 26 + 2 = 28 := ⟨by decide +kernel, rfl⟩
theorem dc_A_travel_28 : decode prog_2_method_13_code 28 = .ok (.iload_n 3, 1) ∧ 28 + 1 = 29 := ⟨by decide +kernel, rfl⟩
theorem dc_A_travel_29 : decode prog_2_method_13_code 29 = .ok (.invokestatic 138, 3) ∧ 29 + 3 = 32 := ⟨by decide +kernel, rfl⟩
theorem dc_A_travel_32 : decode prog_2_method_13_code 32 = .ok (.istore 5, 2) ∧ 32 + 2 = 34 := ⟨by decide +kernel, rfl⟩
theorem dc_A_travel_34 : decode prog_2_method_13_code 34 = .ok (.iload 5, 2) ∧ 34 + 2 = 36 := ⟨by decide +kernel, rfl⟩
theorem dc_A_travel_36 : decode prog_2_method_13_code 36 = .ok (.ifCond .le 51, 3) ∧ ((36 : Nat) : Int) + (51) = ((87 : Nat) : Int) ∧ 36 + 3 = 39 := ⟨by decide +kernel, by decide, rfl⟩
theorem dc_A_travel_39 : decode prog_2_method_13_code 39 = .ok (.iload_n 2, 1) ∧ 39 + 1 = 40 := ⟨by decide +kernel, rfl⟩
theorem dc_A_travel_40 : decode prog_2_method_13_code 40 = .ok (.aload_n 0, 1) ∧ 40 + 1 = 41 := ⟨by decide +kernel, rfl⟩
theorem dc_A_travel_41 : decode prog_2_method_13_code 41 = .ok (.aload_n 0, 1) ∧ 41 + 1 = 42 := ⟨by decide +kernel, rfl⟩
theorem dc_A_travel_42 : decode prog_2_method_13_code 42 = .ok (.getfield 65, 3) ∧ 42 + 3 = 45 := ⟨by decide +kernel, rfl⟩
theorem dc_A_travel_45 : decode prog_2_method_13_code 45 = .ok (.invokevirtual 103, 3) ∧ 45 + 3 = 48 := ⟨by decide +kernel, rfl⟩
theorem dc_A_travel_48 : decode prog_2_method_13_code 48 = .ok (.invokestatic 110, 3) ∧ 48 + 3 = 51 := ⟨by decide +kernel, rfl⟩
theorem dc_A_travel_51 : decode prog_2_method_13_code 51 = .ok (.istore_n 2, 1) ∧ 51 + 1 = 52 := ⟨by decide +kernel, rfl⟩
theorem dc_A_travel_52 : decode prog_2_method_13_code 52 = .ok (.iload 5, 2) ∧ 52 + 2 = 54 := ⟨by decide +kernel, rfl⟩
theorem dc_A_travel_54 : decode prog_2_method_13_code 54 = .ok (.iconst 1, 1) ∧ 54 + 1 = 55 := ⟨by decide +kernel, rfl⟩
theorem dc_A_travel_55 : decode prog_2_method_13_code 55 = .ok (.aload_n 0, 1) ∧ 55 + 1 = 56 := ⟨by decide +kernel, rfl⟩
theorem dc_A_travel_56 : decode prog_2_method_13_code 56 = .ok (.iload 4, 2) ∧ 56 + 2 = 58 := ⟨by decide +kernel, rfl⟩
theorem dc_A_travel_58 : decode prog_2_method_13_code 58 = .ok (.invokevirtual 141, 3) ∧ 58 + 3 = 61 := ⟨by decide +kernel, rfl⟩
theorem dc_A_travel_61 : decode prog_2_method_13_code 61 = .ok (.invokestatic 110, 3) ∧ 61 + 3 = 64 := ⟨by decide +kernel, rfl⟩
theorem dc_A_travel_64 : decode prog_2_method_13_code 64 = .ok (.invokestatic 144, 3) ∧ 64 + 3 = 67 := ⟨by decide +kernel, rfl⟩
theorem dc_A_travel_67 : decode prog_2_method_13_code 67 = .ok (.istore 6, 2) ∧ 67 + 2 = 69 := ⟨by decide +kernel, rfl⟩
theorem dc_A_travel_69 : decode prog_2_method_13_code 69 = .ok (.aload_n 0, 1) ∧ 69 + 1 = 70 := ⟨by decide +kernel, rfl⟩
theorem dc_A_travel_70 : decode prog_2_method_13_code 70 = .ok (.iload 4, 2) ∧ 70 + 2 = 72 := ⟨by decide +kernel, rfl⟩
theorem dc_A_travel_72 : decode prog_2_method_13_code 72 = .ok (.iload 6, 2) ∧ 72 + 2 = 74 := ⟨by decide +kernel, rfl⟩
theorem dc_A_travel_74 : decode prog_2_method_13_code 74 = .ok (.invokevirtual 147, 3) ∧ 74 + 3 = 77 := ⟨by decide +kernel, rfl⟩
theorem dc_A_travel_77 : decode prog_2_method_13_code 77 = .ok (.iload 5, 2) ∧ 77 + 2 = 79 := ⟨by decide +kernel, rfl⟩
theorem dc_A_travel_79 : decode prog_2_method_13_code 79 = .ok (.iload 6, 2) ∧ 79 + 2 = 81 := ⟨by decide +kernel, rfl⟩
theorem dc_A_travel_81 : decode prog_2_method_13_code 81 = .ok (.isub, 1) ∧ 81 + 1 = 82 := ⟨by decide +kernel, rfl⟩
theorem dc_A_travel_82 : decode prog_2_method_13_code 82 = .ok (.istore 5, 2) ∧ 82 + 2 = 84 := ⟨by decide +kernel, rfl⟩
theorem dc_A_travel_84 : decode prog_2_method_13_code 84 = .ok (.goto (-50), 3) ∧ ((84 : Nat) : Int) + (-50) = ((34 : Nat) : Int) := ⟨by decide +kernel, by decide⟩
theorem dc_A_travel_87 : decode prog_2_method_13_code 87 = .ok (.iload_n 2, 1) ∧ 87 + 1 = 88 := ⟨by decide +kernel, rfl⟩
theorem dc_A_travel_88 : decode prog_2_method_13_code 88 = .ok (.ireturn, 1) := by decide +kernel
theorem dc_A_microstepsTo_0 : decode prog_2_method_21_code 0 = .ok (.aload_n 0, 1) ∧ 0 + 1 = 1 := ⟨by decide +kernel, rfl⟩
theorem dc_A_microstepsTo_1 : decode prog_2_method_21_code 1 = .ok (.iconst 0, 1) ∧ 1 + 1 = 2 := ⟨by decide +kernel, rfl⟩
theorem dc_A_microstepsTo_2 : decode prog_2_method_21_code 2 = .ok (.invokevirtual 97, 3) ∧ 2 + 3 = 5 := ⟨by decide +kernel, rfl⟩
theorem dc_A_microstepsTo_5 : decode prog_2_method_21_code 5 = .ok (.istore_n 2, 1) ∧ 5 + 1 = 6 := ⟨by decide +kernel, rfl⟩
theorem dc_A_microstepsTo_6 : decode prog_2_method_21_code 6 = .ok (.iload_n 2, 1) ∧ 6 + 1 = 7 := ⟨by decide +kernel, rfl⟩
theorem dc_A_microstepsTo_7 : decode prog_2_method_21_code 7 = .ok (.ifCond .le 14, 3) ∧ ((7 : Nat) : Int) + (14) = ((21 : Nat) : Int) ∧ 7 + 3 = 10 := ⟨by decide +kernel, by decide, rfl⟩
theorem dc_A_microstepsTo_10 : decode prog_2_method_21_code 10 = .ok (.iload_n 1, 1) ∧ 10 + 1 = 11 := ⟨by decide +kernel, rfl⟩
theorem dc_A_microstepsTo_11 : decode prog_2_method_21_code 11 = .ok (.aload_n 0, 1) ∧ 11 + 1 = 12 := ⟨by decide +kernel, rfl⟩
theorem dc_A_microstepsTo_12 : decode prog_2_method_21_code 12 = .ok (.getfield 59, 3) ∧ 12 + 3 = 15 := ⟨by decide +kernel, rfl⟩
theorem dc_A_microstepsTo_15 : decode prog_2_method_21_code 15 = .ok (.isub, 1) ∧ 15 + 1 = 16 := ⟨by decide +kernel, rfl⟩
theorem dc_A_microstepsTo_16 : decode prog_2_method_21_code 16 = .ok (.iload_n 2, 1) ∧ 16 + 1 = 17 := ⟨by decide +kernel, rfl⟩
theorem dc_A_microstepsTo_17 : decode prog_2_method_21_code 17 = .ok (.idiv, 1) ∧ 17 + 1 = 18 := ⟨by decide +kernel, rfl⟩
theorem dc_A_microstepsTo_18 : decode prog_2_method_21_code 18 = .ok (.goto 4, 3) ∧ ((18 : Nat) : Int) + (4) = ((22 : Nat) : Int) := ⟨by decide +kernel, by decide⟩
theorem dc_A_microstepsTo_21 : decode prog_2_method_21_code 21 = .ok (.iconst 0, 1) ∧ 21 + 1 = 22 := ⟨by decide +kernel, rfl⟩
theorem dc_A_microstepsTo_22 : decode prog_2_method_21_code 22 = .ok (.ireturn, 1) := by decide +kernel
theorem dc_J_signum_0 : decode prog_10_method_56_code 0 = .ok (.iload_n 0, 1) ∧ 0 + 1 = 1 := ⟨by decide +kernel, rfl⟩
theorem dc_J_signum_1 : decode prog_10_method_56_code 1 = .ok (.bipush 31, 2) ∧ 1 + 2 = 3 := ⟨by decide +kernel, rfl⟩
theorem dc_J_signum_3 : decode prog_10_method_56_code 3 = .ok (.ishr, 1) ∧ 3 + 1 = 4 := ⟨by decide +kernel, rfl⟩
theorem dc_J_signum_4 : decode prog_10_method_56_code 4 = .ok (.iload_n 0, 1) ∧ 4 + 1 = 5 := ⟨by decide +kernel, rfl⟩
theorem dc_J_signum_5 : decode prog_10_method_56_code 5 = .ok (.ineg, 1) ∧ 5 + 1 = 6 := ⟨by decide +kernel, rfl⟩
theorem dc_J_signum_6 : decode prog_10_method_56_code 6 = .ok (.bipush 31, 2) ∧ 6 + 2 = 8 := ⟨by decide +kernel, rfl⟩
theorem dc_J_signum_8 : decode prog_10_method_56_code 8 = .ok (.iushr, 1) ∧ 8 + 1 = 9 := ⟨by decide +kernel, rfl⟩
theorem dc_J_signum_9 : decode prog_10_method_56_code 9 = .ok (.ior, 1) ∧ 9 + 1 = 10 := ⟨by decide +kernel, rfl⟩
theorem dc_J_signum_10 : decode prog_10_method_56_code 10 = .ok (.ireturn, 1) := by decide +kernel
theorem dc_J_abs_0 : decode prog_11_method_59_code 0 = .ok (.iload_n 0, 1) ∧ 0 + 1 = 1 := ⟨by decide +kernel, rfl⟩
theorem dc_J_abs_1 : decode prog_11_method_59_code 1 = .ok (.ifCond .ge 8, 3) ∧ ((1 : Nat) : Int) + (8) = ((9 : Nat) : Int) ∧ 1 + 3 = 4 := ⟨by decide +kernel, by decide, rfl⟩
theorem dc_J_abs_4 : decode prog_11_method_59_code 4 = .ok (.iload_n 0, 1) ∧ 4 + 1 = 5 := ⟨by decide +kernel, rfl⟩
theorem dc_J_abs_5 : decode prog_11_method_59_code 5 = .ok (.ineg, 1) ∧ 5 + 1 = 6 := ⟨by decide +kernel, rfl⟩
theorem dc_J_abs_6 : decode prog_11_method_59_code 6 = .ok (.goto 4, 3) ∧ ((6 : Nat) : Int) + (4) = ((10 : Nat) : Int) := ⟨by decide +kernel, by decide⟩
theorem dc_J_abs_9 : decode prog_11_method_59_code 9 = .ok (.iload_n 0, 1) ∧ 9 + 1 = 10 := ⟨by decide +kernel, rfl⟩
theorem dc_J_abs_10 : decode prog_11_method_59_code 10 = .ok (.ireturn, 1) := by decide +kernel
theorem dc_A_loadOn_0 : decode prog_2_method_10_code 0 = .ok (.aload_n 0, 1) ∧ 0 + 1 = 1 := ⟨by decide +kernel, rfl⟩
theorem dc_A_loadOn_1 : decode prog_2_method_10_code 1 = .ok (.getfield 21, 3) ∧ 1 + 3 = 4 := ⟨by decide +kernel, rfl⟩
theorem dc_A_loadOn_4 : decode prog_2_method_10_code 4 = .ok (.iload_n 1, 1) ∧ 4 + 1 = 5 := ⟨by decide +kernel, rfl⟩
theorem dc_A_loadOn_5 : decode prog_2_method_10_code 5 = .ok (.iconst 0, 1) ∧ 5 + 1 = 6 := ⟨by decide +kernel, rfl⟩
theorem dc_A_loadOn_6 : decode prog_2_method_10_code 6 = .ok (.invokevirtual 116, 3) ∧ 6 + 3 = 9 := ⟨by decide +kernel, rfl⟩
theorem dc_A_loadOn_9 : decode prog_2_method_10_code 9 = .ok (.ireturn, 1) := by decide +kernel
theorem dc_P_valueUpTo_0 : decode prog_4_method_4_code 0 = .ok (.aload_n 0, 1) ∧ 0 + 1 = 1 := ⟨by decide +kernel, rfl⟩
theorem dc_P_valueUpTo_1 : decode prog_4_method_4_code 1 = .ok (.iload_n 1, 1) ∧ 1 + 1 = 2 := ⟨by decide +kernel, rfl⟩
theorem dc_P_valueUpTo_2 : decode prog_4_method_4_code 2 = .ok (.invokevirtual 28, 3) ∧ 2 + 3 = 5 := ⟨by decide +kernel, rfl⟩
theorem dc_P_valueUpTo_5 : decode prog_4_method_4_code 5 = .ok (.istore_n 3, 1) ∧ 5 + 1 = 6 := ⟨by decide +kernel, rfl⟩
theorem dc_P_valueUpTo_6 : decode prog_4_method_4_code 6 = .ok (.iload_n 3, 1) ∧ 6 + 1 = 7 := ⟨by decide +kernel, rfl⟩
theorem dc_P_valueUpTo_7 : decode prog_4_method_4_code 7 = .ok (.ifCond .lt 14, 3) ∧ ((7 : Nat) : Int) + (14) = ((21 : Nat) : Int) ∧ 7 + 3 = 10 := ⟨by decide +kernel, by decide, rfl⟩
theorem dc_P_valueUpTo_10 : decode prog_4_method_4_code 10 = .ok (.aload_n 0, 1) ∧ 10 + 1 = 11 := ⟨by decide +kernel, rfl⟩
theorem dc_P_valueUpTo_11 : decode prog_4_method_4_code 11 = .ok (.getfield 15, 3) ∧ 11 + 3 = 14 := ⟨by decide +kernel, rfl⟩
theorem dc_P_valueUpTo_14 : decode prog_4_method_4_code 14 = .ok (.iload_n 3, 1) ∧ 14 + 1 = 15 := ⟨by decide +kernel, rfl⟩
theorem dc_P_valueUpTo_15 : decode prog_4_method_4_code 15 = .ok (.invokestatic 36, 3) ∧ 15 + 3 = 18 := ⟨by decide +kernel, rfl⟩
theorem dc_P_valueUpTo_18 : decode prog_4_method_4_code 18 = .ok (.goto 4, 3) ∧ ((18 : Nat) : Int) + (4) = ((22 : Nat) : Int) := ⟨by decide +kernel, by decide⟩
theorem dc_P_valueUpTo_21 : decode prog_4_method_4_code 21 = .ok (.iload_n 2, 1) ∧ 21 + 1 = 22 := ⟨by decide +kernel, rfl⟩
theorem dc_P_valueUpTo_22 : decode prog_4_method_4_code 22 = .ok (.ireturn, 1) := by decide +kernel
theorem dc_J_max_0 : decode prog_11_method_65_code 0 = .ok (.iload_n 0, 1) ∧ 0 + 1 = 1 := ⟨by decide +kernel, rfl⟩
theorem dc_J_max_1 : decode prog_11_method_65_code 1 = .ok (.iload_n 1, 1) ∧ 1 + 1 = 2 := ⟨by decide +kernel, rfl⟩
theorem dc_J_max_2 : decode prog_11_method_65_code 2 = .ok (.if_icmp .lt 7, 3) ∧ ((2 : Nat) : Int) + (7) = ((9 : Nat) : Int) ∧ 2 + 3 = 5 := ⟨by decide +kernel, by decide, rfl⟩
theorem dc_J_max_5 : decode prog_11_method_65_code 5 = .ok (.iload_n 0, 1) ∧ 5 + 1 = 6 := ⟨by decide +kernel, rfl⟩
theorem dc_J_max_6 : decode prog_11_method_65_code 6 = .ok (.goto 4, 3) ∧ ((6 : Nat) : Int) + (4) = ((10 : Nat) : Int) := ⟨by decide +kernel, by decide⟩
theorem dc_J_max_9 : decode prog_11_method_65_code 9 = .ok (.iload_n 1, 1) ∧ 9 + 1 = 10 := ⟨by decide +kernel, rfl⟩
theorem dc_J_max_10 : decode prog_11_method_65_code 10 = .ok (.ireturn, 1) := by decide +kernel
theorem dc_A_microstepsAlike_0 : decode prog_2_method_23_code 0 = .ok (.aload_n 0, 1) ∧ 0 + 1 = 1 := ⟨by decide +kernel, rfl⟩
theorem dc_A_microstepsAlike_1 : decode prog_2_method_23_code 1 = .ok (.invokevirtual 167, 3) ∧ 1 + 3 = 4 := ⟨by decide +kernel, rfl⟩
theorem dc_A_microstepsAlike_4 : decode prog_2_method_23_code 4 = .ok (.ifCond .eq 6, 3) ∧ ((4 : Nat) : Int) + (6) = ((10 : Nat) : Int) ∧ 4 + 3 = 7 := ⟨by decide +kernel, by decide, rfl⟩
theorem dc_A_microstepsAlike_7 : decode prog_2_method_23_code 7 = .ok (.ldc 171, 2) ∧ 7 + 2 = 9 := ⟨by decide +kernel, rfl⟩
theorem dc_A_microstepsAlike_9 : decode prog_2_method_23_code 9 = .ok (.ireturn, 1) := by decide +kernel
theorem dc_A_microstepsAlike_10 : decode prog_2_method_23_code 10 = .ok (.aload_n 0, 1) ∧ 10 + 1 = 11 := ⟨by decide +kernel, rfl⟩
theorem dc_A_microstepsAlike_11 : decode prog_2_method_23_code 11 = .ok (.iconst 0, 1) ∧ 11 + 1 = 12 := ⟨by decide +kernel, rfl⟩
theorem dc_A_microstepsAlike_12 : decode prog_2_method_23_code 12 = .ok (.invokevirtual 97, 3) ∧ 12 + 3 = 15 := ⟨by decide +kernel, rfl⟩
theorem dc_A_microstepsAlike_15 : decode prog_2_method_23_code 15 = .ok (.istore_n 2, 1) ∧ 15 + 1 = 16 := ⟨by decide +kernel, rfl⟩
theorem dc_A_microstepsAlike_16 : decode prog_2_method_23_code 16 = .ok (.aload_n 0, 1) ∧ 16 + 1 = 17 := ⟨by decide +kernel, rfl⟩
theorem dc_A_microstepsAlike_17 : decode prog_2_method_23_code 17 = .ok (.getfield 62, 3) ∧ 17 + 3 = 20 := ⟨by decide +kernel, rfl⟩
theorem dc_A_microstepsAlike_20 : decode prog_2_method_23_code 20 = .ok (.aload_n 0, 1) ∧ 20 + 1 = 21 := ⟨by decide +kernel, rfl⟩
theorem dc_A_microstepsAlike_21 : decode prog_2_method_23_code 21 = .ok (.iconst 4, 1) ∧ 21 + 1 = 22 := ⟨by decide +kernel, rfl⟩
theorem dc_A_microstepsAlike_22 : decode prog_2_method_23_code 22 = .ok (.invokevirtual 97, 3) ∧ 22 + 3 = 25 := ⟨by decide +kernel, rfl⟩
theorem dc_A_microstepsAlike_25 : decode prog_2_method_23_code 25 = .ok (.isub, 1) ∧ 25 + 1 = 26 := ⟨by decide +kernel, rfl⟩
theorem dc_A_microstepsAlike_26 : decode prog_2_method_23_code 26 = .ok (.istore_n 3, 1) ∧ 26 + 1 = 27 := ⟨by decide +kernel, rfl⟩
theorem dc_A_microstepsAlike_27 : decode prog_2_method_23_code 27 = .ok (.iload_n 2, 1) ∧ 27 + 1 = 28 := ⟨by decide +kernel, rfl⟩
theorem dc_A_microstepsAlike_28 : decode prog_2_method_23_code 28 = .ok (.ifCond .le 29, 3) ∧ ((28 : Nat) : Int) + (29) = ((57 : Nat) : Int) ∧ 28 + 3 = 31 := ⟨by decide +kernel, by decide, rfl⟩
theorem dc_A_microstepsAlike_31 : decode prog_2_method_23_code 31 = .ok (.aload_n 0, 1) ∧ 31 + 1 = 32 := ⟨by decide +kernel, rfl⟩
theorem dc_A_microstepsAlike_32 : decode prog_2_method_23_code 32 = .ok (.getfield 68, 3) ∧ 32 + 3 = 35 := ⟨by decide +kernel, rfl⟩
theorem dc_A_microstepsAlike_35 : decode prog_2_method_23_code 35 = .ok (.ifCond .ne 22, 3) ∧ ((35 : Nat) : Int) + (22) = ((57 : Nat) : Int) ∧ 35 + 3 = 38 := ⟨by decide +kernel, by decide, rfl⟩
theorem dc_A_microstepsAlike_38 : decode prog_2_method_23_code 38 = .ok (.aload_n 0, 1) ∧ 38 + 1 = 39 := ⟨by decide +kernel, rfl⟩
theorem dc_A_microstepsAlike_39 : decode prog_2_method_23_code 39 = .ok (.getfield 65, 3) ∧ 39 + 3 = 42 := ⟨by decide +kernel, rfl⟩
theorem dc_A_microstepsAlike_42 : decode prog_2_method_23_code 42 = .ok (.iload_n 3, 1) ∧ 42 + 1 = 43 := ⟨by decide +kernel, rfl⟩
theorem dc_A_microstepsAlike_43 : decode prog_2_method_23_code 43 = .ok (.if_icmp .lt 14, 3) ∧ ((43 : Nat) : Int) + (14) = ((57 : Nat) : Int) ∧ 43 + 3 = 46 := ⟨by decide +kernel, by decide, rfl⟩
theorem dc_A_microstepsAlike_46 : decode prog_2_method_23_code 46 = .ok (.aload_n 0, 1) ∧ 46 + 1 = 47 := ⟨by decide +kernel, rfl⟩
theorem dc_A_microstepsAlike_47 : decode prog_2_method_23_code 47 = .ok (.getfield 65, 3) ∧ 47 + 3 = 50 := ⟨by decide +kernel, rfl⟩
theorem dc_A_microstepsAlike_50 : decode prog_2_method_23_code 50 = .ok (.aload_n 0, 1) ∧ 50 + 1 = 51 := ⟨by decide +kernel, rfl⟩
theorem dc_A_microstepsAlike_51 : decode prog_2_method_23_code 51 = .ok (.getfield 62, 3) ∧ 51 + 3 = 54 := ⟨by decide +kernel, rfl⟩
theorem dc_A_microstepsAlike_54 : decode prog_2_method_23_code 54 = .ok (.if_icmp .le 5, 3) ∧ ((54 : Nat) : Int) + (5) = ((59 : Nat) : Int) ∧ 54 + 3 = 57 := ⟨by decide +kernel, by decide, rfl⟩
theorem dc_A_microstepsAlike_57 : decode prog_2_method_23_code 57 = .ok (.iconst 1, 1) ∧ 57 + 1 = 58 := ⟨by decide +kernel, rfl⟩
theorem dc_A_microstepsAlike_58 : decode prog_2_method_23_code 58 = .ok (.ireturn, 1) := by decide +kernel
theorem dc_A_microstepsAlike_59 : decode prog_2_method_23_code 59 = .ok (.iload_n 1, 1) ∧ 59 + 1 = 60 := ⟨by decide +kernel, rfl⟩
theorem dc_A_microstepsAlike_60 : decode prog_2_method_23_code 60 = .ok (.ifCond .le 21, 3) ∧ ((60 : Nat) : Int) + (21) = ((81 : Nat) : Int) ∧ 60 + 3 = 63 := ⟨by decide +kernel, by decide, rfl⟩
theorem dc_A_microstepsAlike_63 : decode prog_2_method_23_code 63 = .ok (.aload_n 0, 1) ∧ 63 + 1 = 64 := ⟨by decide +kernel, rfl⟩
theorem dc_A_microstepsAlike_64 : decode prog_2_method_23_code 64 = .ok (.getfield 21, 3) ∧ 64 + 3 = 67 := ⟨by decide +kernel, rfl⟩
theorem dc_A_microstepsAlike_67 : decode prog_2_method_23_code 67 = .ok (.aload_n 0, 1) ∧ 67 + 1 = 68 := ⟨by decide +kernel, rfl⟩
theorem dc_A_microstepsAlike_68 : decode prog_2_method_23_code 68 = .ok (.getfield 65, 3) ∧ 68 + 3 = 71 := ⟨by decide +kernel, rfl⟩
theorem dc_A_microstepsAlike_71 : decode prog_2_method_23_code 71 = .ok (.invokevirtual 172, 3) ∧ 71 + 3 = 74 := ⟨by decide +kernel, rfl⟩
theorem dc_A_microstepsAlike_74 : decode prog_2_method_23_code 74 = .ok (.iconst 1, 1) ∧ 74 + 1 = 75 := ⟨by decide +kernel, rfl⟩
theorem dc_A_microstepsAlike_75 : decode prog_2_method_23_code 75 = .ok (.isub, 1) ∧ 75 + 1 = 76 := ⟨by decide +kernel, rfl⟩
theorem dc_A_microstepsAlike_76 : decode prog_2_method_23_code 76 = .ok (.iload_n 3, 1) ∧ 76 + 1 = 77 := ⟨by decide +kernel, rfl⟩
theorem dc_A_microstepsAlike_77 : decode prog_2_method_23_code 77 = .ok (.isub, 1) ∧ 77 + 1 = 78 := ⟨by decide +kernel, rfl⟩
theorem dc_A_microstepsAlike_78 : decode prog_2_method_23_code 78 = .ok (.goto 19, 3) ∧ ((78 : Nat) : Int) + (19) = ((97 : Nat) : Int) := ⟨by decide +kernel, by decide⟩
theorem dc_A_microstepsAlike_81 : decode prog_2_method_23_code 81 = .ok (.aload_n 0, 1) ∧ 81 + 1 = 82 := ⟨by decide +kernel, rfl⟩
theorem dc_A_microstepsAlike_82 : decode prog_2_method_23_code 82 = .ok (.getfield 62, 3) ∧ 82 + 3 = 85 := ⟨by decide +kernel, rfl⟩
theorem dc_A_microstepsAlike_85 : decode prog_2_method_23_code 85 = .ok (.aload_n 0, 1) ∧ 85 + 1 = 86 := ⟨by decide +kernel, rfl⟩
theorem dc_A_microstepsAlike_86 : decode prog_2_method_23_code 86 = .ok (.getfield 21, 3) ∧ 86 + 3 = 89 := ⟨by decide +kernel, rfl⟩
theorem dc_A_microstepsAlike_89 : decode prog_2_method_23_code 89 = .ok (.aload_n 0, 1) ∧ 89 + 1 = 90 := ⟨by decide +kernel, rfl⟩
theorem dc_A_microstepsAlike_90 : decode prog_2_method_23_code 90 = .ok (.getfield 65, 3) ∧ 90 + 3 = 93 := ⟨by decide +kernel, rfl⟩
theorem dc_A_microstepsAlike_93 : decode prog_2_method_23_code 93 = .ok (.invokevirtual 175, 3) ∧ 93 + 3 = 96 := ⟨by decide +kernel, rfl⟩
theorem dc_A_microstepsAlike_96 : decode prog_2_method_23_code 96 = .ok (.isub, 1) ∧ 96 + 1 = 97 := ⟨by decide +kernel, rfl⟩
theorem dc_A_microstepsAlike_97 : decode prog_2_method_23_code 97 = .ok (.istore 4, 2) ∧ 97 + 2 = 99 := ⟨by decide +kernel, rfl⟩
theorem dc_A_microstepsAlike_99 : decode prog_2_method_23_code 99 = .ok (.iload 4, 2) ∧ 99 + 2 = 101 := ⟨by decide +kernel, rfl⟩
theorem dc_A_microstepsAlike_101 : decode prog_2_method_23_code 101 = .ok (.iload_n 2, 1) ∧ 101 + 1 = 102 := ⟨by decide +kernel, rfl⟩
theorem dc_A_microstepsAlike_102 : decode prog_2_method_23_code 102 = .ok (.idiv, 1) ∧ 102 + 1 = 103 := ⟨by decide +kernel, rfl⟩
theorem dc_A_microstepsAlike_103 : decode prog_2_method_23_code 103 = .ok (.iconst 1, 1) ∧ 103 + 1 = 104 := ⟨by decide +kernel, rfl⟩
theorem dc_A_microstepsAlike_104 : decode prog_2_method_23_code 104 = .ok (.iadd, 1) ∧ 104 + 1 = 105 := ⟨by decide +kernel, rfl⟩
theorem dc_A_microstepsAlike_105 : decode prog_2_method_23_code 105 = .ok (.ireturn, 1) := by decide +kernel
theorem dc_A_stalls_0 : decode prog_2_method_22_code 0 = .ok (.aload_n 0, 1) ∧ 0 + 1 = 1 := ⟨by decide +kernel, rfl⟩
theorem dc_A_stalls_1 : decode prog_2_method_22_code 1 = .ok (.aload_n 0, 1) ∧ 1 + 1 = 2 := ⟨by decide +kernel, rfl⟩
theorem dc_A_stalls_2 : decode prog_2_method_22_code 2 = .ok (.iconst 2, 1) ∧ 2 + 1 = 3 := ⟨by decide +kernel, rfl⟩
theorem dc_A_stalls_3 : decode prog_2_method_22_code 3 = .ok (.invokevirtual 97, 3) ∧ 3 + 3 = 6 := ⟨by decide +kernel, rfl⟩
theorem dc_A_stalls_6 : decode prog_2_method_22_code 6 = .ok (.invokevirtual 100, 3) ∧ 6 + 3 = 9 := ⟨by decide +kernel, rfl⟩
theorem dc_A_stalls_9 : decode prog_2_method_22_code 9 = .ok (.aload_n 0, 1) ∧ 9 + 1 = 10 := ⟨by decide +kernel, rfl⟩
theorem dc_A_stalls_10 : decode prog_2_method_22_code 10 = .ok (.getfield 21, 3) ∧ 10 + 3 = 13 := ⟨by decide +kernel, rfl⟩
theorem dc_A_stalls_13 : decode prog_2_method_22_code 13 = .ok (.aload_n 0, 1) ∧ 13 + 1 = 14 := ⟨by decide +kernel, rfl⟩
theorem dc_A_stalls_14 : decode prog_2_method_22_code 14 = .ok (.getfield 65, 3) ∧ 14 + 3 = 17 := ⟨by decide +kernel, rfl⟩
theorem dc_A_stalls_17 : decode prog_2_method_22_code 17 = .ok (.iconst 0, 1) ∧ 17 + 1 = 18 := ⟨by decide +kernel, rfl⟩
theorem dc_A_stalls_18 : decode prog_2_method_22_code 18 = .ok (.invokevirtual 116, 3) ∧ 18 + 3 = 21 := ⟨by decide +kernel, rfl⟩
theorem dc_A_stalls_21 : decode prog_2_method_22_code 21 = .ok (.if_icmp .ge 7, 3) ∧ ((21 : Nat) : Int) + (7) = ((28 : Nat) : Int) ∧ 21 + 3 = 24 := ⟨by decide +kernel, by decide, rfl⟩
theorem dc_A_stalls_24 : decode prog_2_method_22_code 24 = .ok (.iconst 1, 1) ∧ 24 + 1 = 25 := ⟨by decide +kernel, rfl⟩
theorem dc_A_stalls_25 : decode prog_2_method_22_code 25 = .ok (.goto 4, 3) ∧ ((25 : Nat) : Int) + (4) = ((29 : Nat) : Int) := ⟨by decide +kernel, by decide⟩
theorem dc_A_stalls_28 : decode prog_2_method_22_code 28 = .ok (.iconst 0, 1) ∧ 28 + 1 = 29 := ⟨by decide +kernel, rfl⟩
theorem dc_A_stalls_29 : decode prog_2_method_22_code 29 = .ok (.ireturn, 1) := by decide +kernel
theorem dc_A_torqueAt_0 : decode prog_2_method_9_code 0 = .ok (.iconst 0, 1) ∧ 0 + 1 = 1 := ⟨by decide +kernel, rfl⟩
theorem dc_A_torqueAt_1 : decode prog_2_method_9_code 1 = .ok (.aload_n 0, 1) ∧ 1 + 1 = 2 := ⟨by decide +kernel, rfl⟩
theorem dc_A_torqueAt_2 : decode prog_2_method_9_code 2 = .ok (.iconst 1, 1) ∧ 2 + 1 = 3 := ⟨by decide +kernel, rfl⟩
theorem dc_A_torqueAt_3 : decode prog_2_method_9_code 3 = .ok (.invokevirtual 97, 3) ∧ 3 + 3 = 6 := ⟨by decide +kernel, rfl⟩
theorem dc_A_torqueAt_6 : decode prog_2_method_9_code 6 = .ok (.iload_n 1, 1) ∧ 6 + 1 = 7 := ⟨by decide +kernel, rfl⟩
theorem dc_A_torqueAt_7 : decode prog_2_method_9_code 7 = .ok (.aload_n 0, 1) ∧ 7 + 1 = 8 := ⟨by decide +kernel, rfl⟩
theorem dc_A_torqueAt_8 : decode prog_2_method_9_code 8 = .ok (.iconst 3, 1) ∧ 8 + 1 = 9 := ⟨by decide +kernel, rfl⟩
theorem dc_A_torqueAt_9 : decode prog_2_method_9_code 9 = .ok (.invokevirtual 97, 3) ∧ 9 + 3 = 12 := ⟨by decide +kernel, rfl⟩
theorem dc_A_torqueAt_12 : decode prog_2_method_9_code 12 = .ok (.imul, 1) ∧ 12 + 1 = 13 := ⟨by decide +kernel, rfl⟩
theorem dc_A_torqueAt_13 : decode prog_2_method_9_code 13 = .ok (.bipush 100, 2) ∧ 13 + 2 = 15 := ⟨by decide +kernel, rfl⟩
theorem dc_A_torqueAt_15 : decode prog_2_method_9_code 15 = .ok (.idiv, 1) ∧ 15 + 1 = 16 := ⟨by decide +kernel, rfl⟩
theorem dc_A_torqueAt_16 : decode prog_2_method_9_code 16 = .ok (.isub, 1) ∧ 16 + 1 = 17 := ⟨by decide +kernel, rfl⟩
theorem dc_A_torqueAt_17 : decode prog_2_method_9_code 17 = .ok (.invokestatic 110, 3) ∧ 17 + 3 = 20 := ⟨by decide +kernel, rfl⟩
theorem dc_A_torqueAt_20 : decode prog_2_method_9_code 20 = .ok (.ireturn, 1) := by decide +kernel
theorem dc_P_placeAbove_0 : decode prog_4_method_6_code 0 = .ok (.aload_n 0, 1) ∧ 0 + 1 = 1 := ⟨by decide +kernel, rfl⟩
theorem dc_P_placeAbove_1 : decode prog_4_method_6_code 1 = .ok (.iload_n 1, 1) ∧ 1 + 1 = 2 := ⟨by decide +kernel, rfl⟩
theorem dc_P_placeAbove_2 : decode prog_4_method_6_code 2 = .ok (.invokevirtual 28, 3) ∧ 2 + 3 = 5 := ⟨by decide +kernel, rfl⟩
theorem dc_P_placeAbove_5 : decode prog_4_method_6_code 5 = .ok (.iconst 1, 1) ∧ 5 + 1 = 6 := ⟨by decide +kernel, rfl⟩
theorem dc_P_placeAbove_6 : decode prog_4_method_6_code 6 = .ok (.iadd, 1) ∧ 6 + 1 = 7 := ⟨by decide +kernel, rfl⟩
theorem dc_P_placeAbove_7 : decode prog_4_method_6_code 7 = .ok (.istore_n 2, 1) ∧ 7 + 1 = 8 := ⟨by decide +kernel, rfl⟩
theorem dc_P_placeAbove_8 : decode prog_4_method_6_code 8 = .ok (.iload_n 2, 1) ∧ 8 + 1 = 9 := ⟨by decide +kernel, rfl⟩
theorem dc_P_placeAbove_9 : decode prog_4_method_6_code 9 = .ok (.aload_n 0, 1) ∧ 9 + 1 = 10 := ⟨by decide +kernel, rfl⟩
theorem dc_P_placeAbove_10 : decode prog_4_method_6_code 10 = .ok (.getfield 18, 3) ∧ 10 + 3 = 13 := ⟨by decide +kernel, rfl⟩
theorem dc_P_placeAbove_13 : decode prog_4_method_6_code 13 = .ok (.if_icmp .ge 14, 3) ∧ ((13 : Nat) : Int) + (14) = ((27 : Nat) : Int) ∧ 13 + 3 = 16 := ⟨by decide +kernel, by decide, rfl⟩
theorem dc_P_placeAbove_16 : decode prog_4_method_6_code 16 = .ok (.aload_n 0, 1) ∧ 16 + 1 = 17 := ⟨by decide +kernel, rfl⟩
theorem dc_P_placeAbove_17 : decode prog_4_method_6_code 17 = .ok (.getfield 11, 3) ∧ 17 + 3 = 20 := ⟨by decide +kernel, rfl⟩
theorem dc_P_placeAbove_20 : decode prog_4_method_6_code 20 = .ok (.iload_n 2, 1) ∧ 20 + 1 = 21 := ⟨by decide +kernel, rfl⟩
theorem dc_P_placeAbove_21 : decode prog_4_method_6_code 21 = .ok (.invokestatic 36, 3) ∧ 21 + 3 = 24 := ⟨by decide +kernel, rfl⟩
theorem dc_P_placeAbove_24 : decode prog_4_method_6_code 24 = .ok (.goto 5, 3) ∧ ((24 : Nat) : Int) + (5) = ((29 : Nat) : Int) := ⟨by decide +kernel, by decide⟩
theorem dc_P_placeAbove_27 : decode prog_4_method_6_code 27 = .ok (.ldc 41, 2) ∧ 27 + 2 = 29 := ⟨by decide +kernel, rfl⟩
theorem dc_P_placeAbove_29 : decode prog_4_method_6_code 29 = .ok (.ireturn, 1) := by decide +kernel
theorem dc_P_placeUpTo_0 : decode prog_4_method_5_code 0 = .ok (.aload_n 0, 1) ∧ 0 + 1 = 1 := ⟨by decide +kernel, rfl⟩
theorem dc_P_placeUpTo_1 : decode prog_4_method_5_code 1 = .ok (.iload_n 1, 1) ∧ 1 + 1 = 2 := ⟨by decide +kernel, rfl⟩
theorem dc_P_placeUpTo_2 : decode prog_4_method_5_code 2 = .ok (.invokevirtual 28, 3) ∧ 2 + 3 = 5 := ⟨by decide +kernel, rfl⟩
theorem dc_P_placeUpTo_5 : decode prog_4_method_5_code 5 = .ok (.istore_n 2, 1) ∧ 5 + 1 = 6 := ⟨by decide +kernel, rfl⟩
theorem dc_P_placeUpTo_6 : decode prog_4_method_5_code 6 = .ok (.iload_n 2, 1) ∧ 6 + 1 = 7 := ⟨by decide +kernel, rfl⟩
theorem dc_P_placeUpTo_7 : decode prog_4_method_5_code 7 = .ok (.ifCond .lt 14, 3) ∧ ((7 : Nat) : Int) + (14) = ((21 : Nat) : Int) ∧ 7 + 3 = 10 := ⟨by decide +kernel, by decide, rfl⟩
theorem dc_P_placeUpTo_10 : decode prog_4_method_5_code 10 = .ok (.aload_n 0, 1) ∧ 10 + 1 = 11 := ⟨by decide +kernel, rfl⟩
theorem dc_P_placeUpTo_11 : decode prog_4_method_5_code 11 = .ok (.getfield 11, 3) ∧ 11 + 3 = 14 := ⟨by decide +kernel, rfl⟩
theorem dc_P_placeUpTo_14 : decode prog_4_method_5_code 14 = .ok (.iload_n 2, 1) ∧ 14 + 1 = 15 := ⟨by decide +kernel, rfl⟩
theorem dc_P_placeUpTo_15 : decode prog_4_method_5_code 15 = .ok (.invokestatic 36, 3) ∧ 15 + 3 = 18 := ⟨by decide +kernel, rfl⟩
theorem dc_P_placeUpTo_18 : decode prog_4_method_5_code 18 = .ok (.goto 5, 3) ∧ ((18 : Nat) : Int) + (5) = ((23 : Nat) : Int) := ⟨by decide +kernel, by decide⟩
theorem dc_P_placeUpTo_21 : decode prog_4_method_5_code 21 = .ok (.ldc 40, 2) ∧ 21 + 2 = 23 := ⟨by decide +kernel, rfl⟩
theorem dc_P_placeUpTo_23 : decode prog_4_method_5_code 23 = .ok (.ireturn, 1) := by decide +kernel
theorem dc_A_makeMicrosteps_0 : decode prog_2_method_24_code 0 = .ok (.aload_n 0, 1) ∧ 0 + 1 = 1 := ⟨by decide +kernel, rfl⟩
theorem dc_A_makeMicrosteps_1 : decode prog_2_method_24_code 1 = .ok (.invokevirtual 167, 3) ∧ 1 + 3 = 4 := ⟨by decide +kernel, rfl⟩
theorem dc_A_makeMicrosteps_4 : decode prog_2_method_24_code 4 = .ok (.istore_n 3, 1) ∧ 4 + 1 = 5 := ⟨by decide +kernel, rfl⟩
theorem dc_A_makeMicrosteps_5 : decode prog_2_method_24_code 5 = .ok (.iload_n 1, 1) ∧ 5 + 1 = 6 := ⟨by decide +kernel, rfl⟩
theorem dc_A_makeMicrosteps_6 : decode prog_2_method_24_code 6 = .ok (.iload_n 2, 1) ∧ 6 + 1 = 7 := ⟨by decide +kernel, rfl⟩
theorem dc_A_makeMicrosteps_7 : decode prog_2_method_24_code 7 = .ok (.imul, 1) ∧ 7 + 1 = 8 := ⟨by decide +kernel, rfl⟩
theorem dc_A_makeMicrosteps_8 : decode prog_2_method_24_code 8 = .ok (.aload_n 0, 1) ∧ 8 + 1 = 9 := ⟨by decide +kernel, rfl⟩
theorem dc_A_makeMicrosteps_9 : decode prog_2_method_24_code 9 = .ok (.iconst 0, 1) ∧ 9 + 1 = 10 := ⟨by decide +kernel, rfl⟩
theorem dc_A_makeMicrosteps_10 : decode prog_2_method_24_code 10 = .ok (.invokevirtual 97, 3) ∧ 10 + 3 = 13 := ⟨by decide +kernel, rfl⟩
theorem dc_A_makeMicrosteps_13 : decode prog_2_method_24_code 13 = .ok (.imul, 1) ∧ 13 + 1 = 14 := ⟨by decide +kernel, rfl⟩
theorem dc_A_makeMicrosteps_14 : decode prog_2_method_24_code 14 = .ok (.istore 4, 2) ∧ 14 + 2 = 16 := ⟨by decide +kernel, rfl⟩
theorem dc_A_makeMicrosteps_16 : decode prog_2_method_24_code 16 = .ok (.aload_n 0, 1) ∧ 16 + 1 = 17 := ⟨by decide +kernel, rfl⟩
theorem dc_A_makeMicrosteps_17 : decode prog_2_method_24_code 17 = .ok (.dup, 1) ∧ 17 + 1 = 18 := ⟨by decide +kernel, rfl⟩
theorem dc_A_makeMicrosteps_18 : decode prog_2_method_24_code 18 = .ok (.getfield 59, 3) ∧ 18 + 3 = 21 := ⟨by decide +kernel, rfl⟩
theorem dc_A_makeMicrosteps_21 : decode prog_2_method_24_code 21 = .ok (.iload 4, 2) ∧ 21 + 2 = 23 := ⟨by decide +kernel, rfl⟩
theorem dc_A_makeMicrosteps_23 : decode prog_2_method_24_code 23 = .ok (.iadd, 1) ∧ 23 + 1 = 24 := ⟨by decide +kernel, rfl⟩
theorem dc_A_makeMicrosteps_24 : decode prog_2_method_24_code 24 = .ok (.putfield 59, 3) ∧ 24 + 3 = 27 := ⟨by decide +kernel, rfl⟩
theorem dc_A_makeMicrosteps_27 : decode prog_2_method_24_code 27 = .ok (.aload_n 0, 1) ∧ 27 + 1 = 28 := ⟨by decide +kernel, rfl⟩
theorem dc_A_makeMicrosteps_28 : decode prog_2_method_24_code 28 = .ok (.dup, 1) ∧ 28 + 1 = 29 := ⟨by decide +kernel, rfl⟩
theorem dc_A_makeMicrosteps_29 : decode prog_2_method_24_code 29 = .ok (.getfield 68, 3) ∧ 29 + 3 = 32 := ⟨by decide +kernel, rfl⟩
theorem dc_A_makeMicrosteps_32 : decode prog_2_method_24_code 32 = .ok (.iload 4, 2) ∧ 32 + 2 = 34 := ⟨by decide +kernel, rfl⟩
theorem dc_A_makeMicrosteps_34 : decode prog_2_method_24_code 34 = .ok (.iadd, 1) ∧ 34 + 1 = 35 := ⟨by decide +kernel, rfl⟩
theorem dc_A_makeMicrosteps_35 : decode prog_2_method_24_code 35 = .ok (.putfield 68, 3) ∧ 35 + 3 = 38 := ⟨by decide +kernel, rfl⟩
theorem dc_A_makeMicrosteps_38 : decode prog_2_method_24_code 38 = .ok (.aload_n 0, 1) ∧ 38 + 1 = 39 := ⟨by decide +kernel, rfl⟩
theorem dc_A_makeMicrosteps_39 : decode prog_2_method_24_code 39 = .ok (.iconst 0, 1) ∧ 39 + 1 = 40 := ⟨by decide +kernel, rfl⟩
theorem dc_A_makeMicrosteps_40 : decode prog_2_method_24_code 40 = .ok (.iload_n 2, 1) ∧ 40 + 1 = 41 := ⟨by decide +kernel, rfl⟩
theorem dc_A_makeMicrosteps_41 : decode prog_2_method_24_code 41 = .ok (.invokevirtual 164, 3) ∧ 41 + 3 = 44 := ⟨by decide +kernel, rfl⟩
theorem dc_A_makeMicrosteps_44 : decode prog_2_method_24_code 44 = .ok (.iload_n 3, 1) ∧ 44 + 1 = 45 := ⟨by decide +kernel, rfl⟩
theorem dc_A_makeMicrosteps_45 : decode prog_2_method_24_code 45 = .ok (.ifCond .eq 16, 3) ∧ ((45 : Nat) : Int) + (16) = ((61 : Nat) : Int) ∧ 45 + 3 = 48 := ⟨by decide +kernel, by decide, rfl⟩
theorem dc_A_makeMicrosteps_48 : decode prog_2_method_24_code 48 = .ok (.aload_n 0, 1) ∧ 48 + 1 = 49 := ⟨by decide +kernel, rfl⟩
theorem dc_A_makeMicrosteps_49 : decode prog_2_method_24_code 49 = .ok (.iconst 1, 1) ∧ 49 + 1 = 50 := ⟨by decide +kernel, rfl⟩
theorem dc_A_makeMicrosteps_50 : decode prog_2_method_24_code 50 = .ok (.iload_n 2, 1) ∧ 50 + 1 = 51 := ⟨by decide +kernel, rfl⟩
theorem dc_A_makeMicrosteps_51 : decode prog_2_method_24_code 51 = .ok (.invokevirtual 164, 3) ∧ 51 + 3 = 54 := ⟨by decide +kernel, rfl⟩
theorem dc_A_makeMicrosteps_54 : decode prog_2_method_24_code 54 = .ok (.aload_n 0, 1) ∧ 54 + 1 = 55 := ⟨by decide +kernel, rfl⟩
theorem dc_A_makeMicrosteps_55 : decode prog_2_method_24_code 55 = .ok (.invokevirtual 178, 3) ∧ 55 + 3 = 58 := ⟨by decide +kernel, rfl⟩
theorem dc_A_makeMicrosteps_58 : decode prog_2_method_24_code 58 = .ok (.goto 7, 3) ∧ ((58 : Nat) : Int) + (7) = ((65 : Nat) : Int) := ⟨by decide +kernel, by decide⟩
theorem dc_A_makeMicrosteps_61 : decode prog_2_method_24_code 61 = .ok (.aload_n 0, 1) ∧ 61 + 1 = 62 := ⟨by decide +kernel, rfl⟩
theorem dc_A_makeMicrosteps_62 : decode prog_2_method_24_code 62 = .ok (.invokevirtual 181, 3) ∧ 62 + 3 = 65 := ⟨by decide +kernel, rfl⟩
theorem dc_A_makeMicrosteps_65 : decode prog_2_method_24_code 65 = .ok (.return_, 1) := by decide +kernel
theorem dc_A_tally_0 : decode prog_2_method_27_code 0 = .ok (.aload_n 0, 1) ∧ 0 + 1 = 1 := ⟨by decide +kernel, rfl⟩
theorem dc_A_tally_1 : decode prog_2_method_27_code 1 = .ok (.getfield 15, 3) ∧ 1 + 3 = 4 := ⟨by decide +kernel, rfl⟩
theorem dc_A_tally_4 : decode prog_2_method_27_code 4 = .ok (.iload_n 1, 1) ∧ 4 + 1 = 5 := ⟨by decide +kernel, rfl⟩
theorem dc_A_tally_5 : decode prog_2_method_27_code 5 = .ok (.aload_n 0, 1) ∧ 5 + 1 = 6 := ⟨by decide +kernel, rfl⟩
theorem dc_A_tally_6 : decode prog_2_method_27_code 6 = .ok (.getfield 15, 3) ∧ 6 + 3 = 9 := ⟨by decide +kernel, rfl⟩
theorem dc_A_tally_9 : decode prog_2_method_27_code 9 = .ok (.iload_n 1, 1) ∧ 9 + 1 = 10 := ⟨by decide +kernel, rfl⟩
theorem dc_A_tally_10 : decode prog_2_method_27_code 10 = .ok (.invokestatic 80, 3) ∧ 10 + 3 = 13 := ⟨by decide +kernel, rfl⟩
theorem dc_A_tally_13 : decode prog_2_method_27_code 13 = .ok (.iload_n 2, 1) ∧ 13 + 1 = 14 := ⟨by decide +kernel, rfl⟩
theorem dc_A_tally_14 : decode prog_2_method_27_code 14 = .ok (.iadd, 1) ∧ 14 + 1 = 15 := ⟨by decide +kernel, rfl⟩
theorem dc_A_tally_15 : decode prog_2_method_27_code 15 = .ok (.invokestatic 93, 3) ∧ 15 + 3 = 18 := ⟨by decide +kernel, rfl⟩
theorem dc_A_tally_18 : decode prog_2_method_27_code 18 = .ok (.return_, 1) := by decide +kernel
theorem dc_A_slip_0 : decode prog_2_method_26_code 0 = .ok (.aload_n 0, 1) ∧ 0 + 1 = 1 := ⟨by decide +kernel, rfl⟩
theorem dc_A_slip_1 : decode prog_2_method_26_code 1 = .ok (.getfield 68, 3) ∧ 1 + 3 = 4 := ⟨by decide +kernel, rfl⟩
theorem dc_A_slip_4 : decode prog_2_method_26_code 4 = .ok (.bipush 32, 2) ∧ 4 + 2 = 6 := ⟨by decide +kernel, rfl⟩
theorem dc_A_slip_6 : decode prog_2_method_26_code 6 = .ok (.if_icmp .lt 49, 3) ∧ ((6 : Nat) : Int) + (49) = ((55 : Nat) : Int) ∧ 6 + 3 = 9 := ⟨by decide +kernel, by decide, rfl⟩
theorem dc_A_slip_9 : decode prog_2_method_26_code 9 = .ok (.aload_n 0, 1) ∧ 9 + 1 = 10 := ⟨by decide +kernel, rfl⟩
theorem dc_A_slip_10 : decode prog_2_method_26_code 10 = .ok (.getfield 68, 3) ∧ 10 + 3 = 13 := ⟨by decide +kernel, rfl⟩
theorem dc_A_slip_13 : decode prog_2_method_26_code 13 = .ok (.bipush 32, 2) ∧ 13 + 2 = 15 := ⟨by decide +kernel, rfl⟩
theorem dc_A_slip_15 : decode prog_2_method_26_code 15 = .ok (.iadd, 1) ∧ 15 + 1 = 16 := ⟨by decide +kernel, rfl⟩
theorem dc_A_slip_16 : decode prog_2_method_26_code 16 = .ok (.bipush 64, 2) ∧ 16 + 2 = 18 := ⟨by decide +kernel, rfl⟩
theorem dc_A_slip_18 : decode prog_2_method_26_code 18 = .ok (.idiv, 1) ∧ 18 + 1 = 19 := ⟨by decide +kernel, rfl⟩
theorem dc_A_slip_19 : decode prog_2_method_26_code 19 = .ok (.istore_n 1, 1) ∧ 19 + 1 = 20 := ⟨by decide +kernel, rfl⟩
theorem dc_A_slip_20 : decode prog_2_method_26_code 20 = .ok (.aload_n 0, 1) ∧ 20 + 1 = 21 := ⟨by decide +kernel, rfl⟩
theorem dc_A_slip_21 : decode prog_2_method_26_code 21 = .ok (.iconst 2, 1) ∧ 21 + 1 = 22 := ⟨by decide +kernel, rfl⟩
theorem dc_A_slip_22 : decode prog_2_method_26_code 22 = .ok (.iload_n 1, 1) ∧ 22 + 1 = 23 := ⟨by decide +kernel, rfl⟩
theorem dc_A_slip_23 : decode prog_2_method_26_code 23 = .ok (.invokevirtual 164, 3) ∧ 23 + 3 = 26 := ⟨by decide +kernel, rfl⟩
theorem dc_A_slip_26 : decode prog_2_method_26_code 26 = .ok (.aload_n 0, 1) ∧ 26 + 1 = 27 := ⟨by decide +kernel, rfl⟩
theorem dc_A_slip_27 : decode prog_2_method_26_code 27 = .ok (.dup, 1) ∧ 27 + 1 = 28 := ⟨by decide +kernel, rfl⟩
theorem dc_A_slip_28 : decode prog_2_method_26_code 28 = .ok (.getfield 71, 3) ∧ 28 + 3 = 31 := ⟨by decide +kernel, rfl⟩
theorem dc_A_slip_31 : decode prog_2_method_26_code 31 = .ok (.iload_n 1, 1) ∧ 31 + 1 = 32 := ⟨by decide +kernel, rfl⟩
theorem dc_A_slip_32 : decode prog_2_method_26_code 32 = .ok (.bipush 64, 2) ∧ 32 + 2 = 34 := ⟨by decide +kernel, rfl⟩
theorem dc_A_slip_34 : decode prog_2_method_26_code 34 = .ok (.imul, 1) ∧ 34 + 1 = 35 := ⟨by decide +kernel, rfl⟩
theorem dc_A_slip_35 : decode prog_2_method_26_code 35 = .ok (.iadd, 1) ∧ 35 + 1 = 36 := ⟨by decide +kernel, rfl⟩
theorem dc_A_slip_36 : decode prog_2_method_26_code 36 = .ok (.putfield 71, 3) ∧ 36 + 3 = 39 := ⟨by decide +kernel, rfl⟩
theorem dc_A_slip_39 : decode prog_2_method_26_code 39 = .ok (.aload_n 0, 1) ∧ 39 + 1 = 40 := ⟨by decide +kernel, rfl⟩
theorem dc_A_slip_40 : decode prog_2_method_26_code 40 = .ok (.dup, 1) ∧ 40 + 1 = 41 := ⟨by decide +kernel, rfl⟩
theorem dc_A_slip_41 : decode prog_2_method_26_code 41 = .ok (.getfield 68, 3) ∧ 41 + 3 = 44 := ⟨by decide +kernel, rfl⟩
theorem dc_A_slip_44 : decode prog_2_method_26_code 44 = .ok (.iload_n 1, 1) ∧ 44 + 1 = 45 := ⟨by decide +kernel, rfl⟩
theorem dc_A_slip_45 : decode prog_2_method_26_code 45 = .ok (.bipush 64, 2) ∧ 45 + 2 = 47 := ⟨by decide +kernel, rfl⟩
theorem dc_A_slip_47 : decode prog_2_method_26_code 47 = .ok (.imul, 1) ∧ 47 + 1 = 48 := ⟨by decide +kernel, rfl⟩
theorem dc_A_slip_48 : decode prog_2_method_26_code 48 = .ok (.isub, 1) ∧ 48 + 1 = 49 := ⟨by decide +kernel, rfl⟩
theorem dc_A_slip_49 : decode prog_2_method_26_code 49 = .ok (.putfield 68, 3) ∧ 49 + 3 = 52 := ⟨by decide +kernel, rfl⟩
theorem dc_A_slip_52 : decode prog_2_method_26_code 52 = .ok (.goto 55, 3) ∧ ((52 : Nat) : Int) + (55) = ((107 : Nat) : Int) := ⟨by decide +kernel, by decide⟩
theorem dc_A_slip_55 : decode prog_2_method_26_code 55 = .ok (.aload_n 0, 1) ∧ 55 + 1 = 56 := ⟨by decide +kernel, rfl⟩
theorem dc_A_slip_56 : decode prog_2_method_26_code 56 = .ok (.getfield 68, 3) ∧ 56 + 3 = 59 := ⟨by decide +kernel, rfl⟩
theorem dc_A_slip_59 : decode prog_2_method_26_code 59 = .ok (.bipush (-32), 2) ∧ 59 + 2 = 61 := ⟨by decide +kernel, rfl⟩
theorem dc_A_slip_61 : decode prog_2_method_26_code 61 = .ok (.if_icmp .gt 46, 3) ∧ ((61 : Nat) : Int) + (46) = ((107 : Nat) : Int) ∧ 61 + 3 = 64 := ⟨by decide +kernel, by decide, rfl⟩
theorem dc_A_slip_64 : decode prog_2_method_26_code 64 = .ok (.bipush 32, 2) ∧ 64 + 2 = 66 := ⟨by decide +kernel, rfl⟩
theorem dc_A_slip_66 : decode prog_2_method_26_code 66 = .ok (.aload_n 0, 1) ∧ 66 + 1 = 67 := ⟨by decide +kernel, rfl⟩
theorem dc_A_slip_67 : decode prog_2_method_26_code 67 = .ok (.getfield 68, 3) ∧ 67 + 3 = 70 := ⟨by decide +kernel, rfl⟩
theorem dc_A_slip_70 : decode prog_2_method_26_code 70 = .ok (.isub, 1) ∧ 70 + 1 = 71 := ⟨by decide +kernel, rfl⟩
theorem dc_A_slip_71 : decode prog_2_method_26_code 71 = .ok (.bipush 64, 2) ∧ 71 + 2 = 73 := ⟨by decide +kernel, rfl⟩
theorem dc_A_slip_73 : decode prog_2_method_26_code 73 = .ok (.idiv, 1) ∧ 73 + 1 = 74 := ⟨by decide +kernel, rfl⟩
theorem dc_A_slip_74 : decode prog_2_method_26_code 74 = .ok (.istore_n 1, 1) ∧ 74 + 1 = 75 := ⟨by decide +kernel, rfl⟩
theorem dc_A_slip_75 : decode prog_2_method_26_code 75 = .ok (.aload_n 0, 1) ∧ 75 + 1 = 76 := ⟨by decide +kernel, rfl⟩
theorem dc_A_slip_76 : decode prog_2_method_26_code 76 = .ok (.iconst 3, 1) ∧ 76 + 1 = 77 := ⟨by decide +kernel, rfl⟩
theorem dc_A_slip_77 : decode prog_2_method_26_code 77 = .ok (.iload_n 1, 1) ∧ 77 + 1 = 78 := ⟨by decide +kernel, rfl⟩
theorem dc_A_slip_78 : decode prog_2_method_26_code 78 = .ok (.invokevirtual 164, 3) ∧ 78 + 3 = 81 := ⟨by decide +kernel, rfl⟩
theorem dc_A_slip_81 : decode prog_2_method_26_code 81 = .ok (.aload_n 0, 1) ∧ 81 + 1 = 82 := ⟨by decide +kernel, rfl⟩
theorem dc_A_slip_82 : decode prog_2_method_26_code 82 = .ok (.dup, 1) ∧ 82 + 1 = 83 := ⟨by decide +kernel, rfl⟩
theorem dc_A_slip_83 : decode prog_2_method_26_code 83 = .ok (.getfield 71, 3) ∧ 83 + 3 = 86 := ⟨by decide +kernel, rfl⟩
theorem dc_A_slip_86 : decode prog_2_method_26_code 86 = .ok (.iload_n 1, 1) ∧ 86 + 1 = 87 := ⟨by decide +kernel, rfl⟩
theorem dc_A_slip_87 : decode prog_2_method_26_code 87 = .ok (.bipush 64, 2) ∧ 87 + 2 = 89 := ⟨by decide +kernel, rfl⟩
theorem dc_A_slip_89 : decode prog_2_method_26_code 89 = .ok (.imul, 1) ∧ 89 + 1 = 90 := ⟨by decide +kernel, rfl⟩
theorem dc_A_slip_90 : decode prog_2_method_26_code 90 = .ok (.isub, 1) ∧ 90 + 1 = 91 := ⟨by decide +kernel, rfl⟩
theorem dc_A_slip_91 : decode prog_2_method_26_code 91 = .ok (.putfield 71, 3) ∧ 91 + 3 = 94 := ⟨by decide +kernel, rfl⟩
theorem dc_A_slip_94 : decode prog_2_method_26_code 94 = .ok (.aload_n 0, 1) ∧ 94 + 1 = 95 := ⟨by decide +kernel, rfl⟩
theorem dc_A_slip_95 : decode prog_2_method_26_code 95 = .ok (.dup, 1) ∧ 95 + 1 = 96 := ⟨by decide +kernel, rfl⟩
theorem dc_A_slip_96 : decode prog_2_method_26_code 96 = .ok (.getfield 68, 3) ∧ 96 + 3 = 99 := ⟨by decide +kernel, rfl⟩
theorem dc_A_slip_99 : decode prog_2_method_26_code 99 = .ok (.iload_n 1, 1) ∧ 99 + 1 = 100 := ⟨by decide +kernel, rfl⟩
theorem dc_A_slip_100 : decode prog_2_method_26_code 100 = .ok (.bipush 64, 2) ∧ 100 + 2 = 102 := ⟨by decide +kernel, rfl⟩
theorem dc_A_slip_102 : decode prog_2_method_26_code 102 = .ok (.imul, 1) ∧ 102 + 1 = 103 := ⟨by decide +kernel, rfl⟩
theorem dc_A_slip_103 : decode prog_2_method_26_code 103 = .ok (.iadd, 1) ∧ 103 + 1 = 104 := ⟨by decide +kernel, rfl⟩
theorem dc_A_slip_104 : decode prog_2_method_26_code 104 = .ok (.putfield 68, 3) ∧ 104 + 3 = 107 := ⟨by decide +kernel, rfl⟩
theorem dc_A_slip_107 : decode prog_2_method_26_code 107 = .ok (.return_, 1) := by decide +kernel
theorem dc_A_turnMotor_0 : decode prog_2_method_25_code 0 = .ok (.aload_n 0, 1) ∧ 0 + 1 = 1 := ⟨by decide +kernel, rfl⟩
theorem dc_A_turnMotor_1 : decode prog_2_method_25_code 1 = .ok (.iconst 4, 1) ∧ 1 + 1 = 2 := ⟨by decide +kernel, rfl⟩
theorem dc_A_turnMotor_2 : decode prog_2_method_25_code 2 = .ok (.aload_n 0, 1) ∧ 2 + 1 = 3 := ⟨by decide +kernel, rfl⟩
theorem dc_A_turnMotor_3 : decode prog_2_method_25_code 3 = .ok (.getfield 68, 3) ∧ 3 + 3 = 6 := ⟨by decide +kernel, rfl⟩
theorem dc_A_turnMotor_6 : decode prog_2_method_25_code 6 = .ok (.invokestatic 138, 3) ∧ 6 + 3 = 9 := ⟨by decide +kernel, rfl⟩
theorem dc_A_turnMotor_9 : decode prog_2_method_25_code 9 = .ok (.invokevirtual 164, 3) ∧ 9 + 3 = 12 := ⟨by decide +kernel, rfl⟩
theorem dc_A_turnMotor_12 : decode prog_2_method_25_code 12 = .ok (.aload_n 0, 1) ∧ 12 + 1 = 13 := ⟨by decide +kernel, rfl⟩
theorem dc_A_turnMotor_13 : decode prog_2_method_25_code 13 = .ok (.dup, 1) ∧ 13 + 1 = 14 := ⟨by decide +kernel, rfl⟩
theorem dc_A_turnMotor_14 : decode prog_2_method_25_code 14 = .ok (.getfield 62, 3) ∧ 14 + 3 = 17 := ⟨by decide +kernel, rfl⟩
theorem dc_A_turnMotor_17 : decode prog_2_method_25_code 17 = .ok (.aload_n 0, 1) ∧ 17 + 1 = 18 := ⟨by decide +kernel, rfl⟩
theorem dc_A_turnMotor_18 : decode prog_2_method_25_code 18 = .ok (.getfield 68, 3) ∧ 18 + 3 = 21 := ⟨by decide +kernel, rfl⟩
theorem dc_A_turnMotor_21 : decode prog_2_method_25_code 21 = .ok (.iadd, 1) ∧ 21 + 1 = 22 := ⟨by decide +kernel, rfl⟩
theorem dc_A_turnMotor_22 : decode prog_2_method_25_code 22 = .ok (.putfield 62, 3) ∧ 22 + 3 = 25 := ⟨by decide +kernel, rfl⟩
theorem dc_A_turnMotor_25 : decode prog_2_method_25_code 25 = .ok (.aload_n 0, 1) ∧ 25 + 1 = 26 := ⟨by decide +kernel, rfl⟩
theorem dc_A_turnMotor_26 : decode prog_2_method_25_code 26 = .ok (.iconst 0, 1) ∧ 26 + 1 = 27 := ⟨by decide +kernel, rfl⟩
theorem dc_A_turnMotor_27 : decode prog_2_method_25_code 27 = .ok (.putfield 68, 3) ∧ 27 + 3 = 30 := ⟨by decide +kernel, rfl⟩
theorem dc_A_turnMotor_30 : decode prog_2_method_25_code 30 = .ok (.aload_n 0, 1) ∧ 30 + 1 = 31 := ⟨by decide +kernel, rfl⟩
theorem dc_A_turnMotor_31 : decode prog_2_method_25_code 31 = .ok (.aload_n 0, 1) ∧ 31 + 1 = 32 := ⟨by decide +kernel, rfl⟩
theorem dc_A_turnMotor_32 : decode prog_2_method_25_code 32 = .ok (.getfield 62, 3) ∧ 32 + 3 = 35 := ⟨by decide +kernel, rfl⟩
theorem dc_A_turnMotor_35 : decode prog_2_method_25_code 35 = .ok (.aload_n 0, 1) ∧ 35 + 1 = 36 := ⟨by decide +kernel, rfl⟩
theorem dc_A_turnMotor_36 : decode prog_2_method_25_code 36 = .ok (.getfield 65, 3) ∧ 36 + 3 = 39 := ⟨by decide +kernel, rfl⟩
theorem dc_A_turnMotor_39 : decode prog_2_method_25_code 39 = .ok (.aload_n 0, 1) ∧ 39 + 1 = 40 := ⟨by decide +kernel, rfl⟩
theorem dc_A_turnMotor_40 : decode prog_2_method_25_code 40 = .ok (.getfield 62, 3) ∧ 40 + 3 = 43 := ⟨by decide +kernel, rfl⟩
theorem dc_A_turnMotor_43 : decode prog_2_method_25_code 43 = .ok (.aload_n 0, 1) ∧ 43 + 1 = 44 := ⟨by decide +kernel, rfl⟩
theorem dc_A_turnMotor_44 : decode prog_2_method_25_code 44 = .ok (.iconst 4, 1) ∧ 44 + 1 = 45 := ⟨by decide +kernel, rfl⟩
theorem dc_A_turnMotor_45 : decode prog_2_method_25_code 45 = .ok (.invokevirtual 97, 3) ∧ 45 + 3 = 48 := ⟨by decide +kernel, rfl⟩
theorem dc_A_turnMotor_48 : decode prog_2_method_25_code 48 = .ok (.isub, 1) ∧ 48 + 1 = 49 := ⟨by decide +kernel, rfl⟩
theorem dc_A_turnMotor_49 : decode prog_2_method_25_code 49 = .ok (.invokestatic 110, 3) ∧ 49 + 3 = 52 := ⟨by decide +kernel, rfl⟩
theorem dc_A_turnMotor_52 : decode prog_2_method_25_code 52 = .ok (.invokestatic 144, 3) ∧ 52 + 3 = 55 := ⟨by decide +kernel, rfl⟩
theorem dc_A_turnMotor_55 : decode prog_2_method_25_code 55 = .ok (.putfield 65, 3) ∧ 55 + 3 = 58 := ⟨by decide +kernel, rfl⟩
theorem dc_A_turnMotor_58 : decode prog_2_method_25_code 58 = .ok (.return_, 1) := by decide +kernel
theorem dc_F_addCommand_0 : decode prog_1_method_10_code 0 = .ok (.iload_n 1, 1) ∧ 0 + 1 = 1 := ⟨by decide +kernel, rfl⟩
theorem dc_F_addCommand_1 : decode prog_1_method_10_code 1 = .ok (.invokestatic 58, 3) ∧ 1 + 3 = 4 := ⟨by decide +kernel, rfl⟩
theorem dc_F_addCommand_4 : decode prog_1_method_10_code 4 = .ok (.ifCond .eq 13, 3) ∧ ((4 : Nat) : Int) + (13) = ((17 : Nat) : Int) ∧ 4 + 3 = 7 := ⟨by decide +kernel, by decide, rfl⟩
theorem dc_F_addCommand_7 : decode prog_1_method_10_code 7 = .ok (.iload_n 2, 1) ∧ 7 + 1 = 8 := ⟨by decide +kernel, rfl⟩
theorem dc_F_addCommand_8 : decode prog_1_method_10_code 8 = .ok (.ifCond .lt 9, 3) ∧ ((8 : Nat) : Int) + (9) = ((17 : Nat) : Int) ∧ 8 + 3 = 11 := ⟨by decide +kernel, by decide, rfl⟩
theorem dc_F_addCommand_11 : decode prog_1_method_10_code 11 = .ok (.iload_n 2, 1) ∧ 11 + 1 = 12 := ⟨by decide +kernel, rfl⟩
theorem dc_F_addCommand_12 : decode prog_1_method_10_code 12 = .ok (.bipush 9, 2) ∧ 12 + 2 = 14 := ⟨by decide +kernel, rfl⟩
theorem dc_F_addCommand_14 : decode prog_1_method_10_code 14 = .ok (.if_icmp .le 6, 3) ∧ ((14 : Nat) : Int) + (6) = ((20 : Nat) : Int) ∧ 14 + 3 = 17 := ⟨by decide +kernel, by decide, rfl⟩
theorem dc_F_addCommand_17 : decode prog_1_method_10_code 17 = .ok (.ldc 45, 2) ∧ 17 + 2 = 19 := ⟨by decide +kernel, rfl⟩
theorem dc_F_addCommand_19 : decode prog_1_method_10_code 19 = .ok (.ireturn, 1) := by decide +kernel
theorem dc_F_addCommand_20 : decode prog_1_method_10_code 20 = .ok (.aload_n 0, 1) ∧ 20 + 1 = 21 := ⟨by decide +kernel, rfl⟩
theorem dc_F_addCommand_21 : decode prog_1_method_10_code 21 = .ok (.getfield 10, 3) ∧ 21 + 3 = 24 := ⟨by decide +kernel, rfl⟩
theorem dc_F_addCommand_24 : decode prog_1_method_10_code 24 = .ok (.getfield 107, 3) ∧ 24 + 3 = 27 := ⟨by decide +kernel, rfl⟩
theorem dc_F_addCommand_27 : decode prog_1_method_10_code 27 = .ok (.invokevirtual 111, 3) ∧ 27 + 3 = 30 := ⟨by decide +kernel, rfl⟩
theorem dc_F_addCommand_30 : decode prog_1_method_10_code 30 = .ok (.ifCond .eq 6, 3) ∧ ((30 : Nat) : Int) + (6) = ((36 : Nat) : Int) ∧ 30 + 3 = 33 := ⟨by decide +kernel, by decide, rfl⟩
theorem dc_F_addCommand_33 : decode prog_1_method_10_code 33 = .ok (.ldc 83, 2) ∧ 33 + 2 = 35 := ⟨by decide +kernel, rfl⟩
theorem dc_F_addCommand_35 : decode prog_1_method_10_code 35 = .ok (.ireturn, 1) := by decide +kernel
theorem dc_F_addCommand_36 : decode prog_1_method_10_code 36 = .ok (.aload_n 0, 1) ∧ 36 + 1 = 37 := ⟨by decide +kernel, rfl⟩
theorem dc_F_addCommand_37 : decode prog_1_method_10_code 37 = .ok (.getfield 30, 3) ∧ 37 + 3 = 40 := ⟨by decide +kernel, rfl⟩
theorem dc_F_addCommand_40 : decode prog_1_method_10_code 40 = .ok (.aload_n 0, 1) ∧ 40 + 1 = 41 := ⟨by decide +kernel, rfl⟩
theorem dc_F_addCommand_41 : decode prog_1_method_10_code 41 = .ok (.getfield 10, 3) ∧ 41 + 3 = 44 := ⟨by decide +kernel, rfl⟩
theorem dc_F_addCommand_44 : decode prog_1_method_10_code 44 = .ok (.invokevirtual 50, 3) ∧ 44 + 3 = 47 := ⟨by decide +kernel, rfl⟩
theorem dc_F_addCommand_47 : decode prog_1_method_10_code 47 = .ok (.aload_n 0, 1) ∧ 47 + 1 = 48 := ⟨by decide +kernel, rfl⟩
theorem dc_F_addCommand_48 : decode prog_1_method_10_code 48 = .ok (.getfield 10, 3) ∧ 48 + 3 = 51 := ⟨by decide +kernel, rfl⟩
theorem dc_F_addCommand_51 : decode prog_1_method_10_code 51 = .ok (.getfield 107, 3) ∧ 51 + 3 = 54 := ⟨by decide +kernel, rfl⟩
theorem dc_F_addCommand_54 : decode prog_1_method_10_code 54 = .ok (.iload_n 1, 1) ∧ 54 + 1 = 55 := ⟨by decide +kernel, rfl⟩
theorem dc_F_addCommand_55 : decode prog_1_method_10_code 55 = .ok (.iload_n 2, 1) ∧ 55 + 1 = 56 := ⟨by decide +kernel, rfl⟩
theorem dc_F_addCommand_56 : decode prog_1_method_10_code 56 = .ok (.invokevirtual 117, 3) ∧ 56 + 3 = 59 := ⟨by decide +kernel, rfl⟩
theorem dc_F_addCommand_59 : decode prog_1_method_10_code 59 = .ok (.aload_n 0, 1) ∧ 59 + 1 = 60 := ⟨by decide +kernel, rfl⟩
theorem dc_F_addCommand_60 : decode prog_1_method_10_code 60 = .ok (.getfield 10, 3) ∧ 60 + 3 = 63 := ⟨by decide +kernel, rfl⟩
theorem dc_F_addCommand_63 : decode prog_1_method_10_code 63 = .ok (.getfield 107, 3) ∧ 63 + 3 = 66 := ⟨by decide +kernel, rfl⟩
theorem dc_F_addCommand_66 : decode prog_1_method_10_code 66 = .ok (.getfield 120, 3) ∧ 66 + 3 = 69 := ⟨by decide +kernel, rfl⟩
theorem dc_F_addCommand_69 : decode prog_1_method_10_code 69 = .ok (.ireturn, 1) := by decide +kernel
theorem dc_C_isFull_0 : decode prog_3_method_3_code 0 = .ok (.aload_n 0, 1) ∧ 0 + 1 = 1 := ⟨by decide +kernel, rfl⟩
theorem dc_C_isFull_1 : decode prog_3_method_3_code 1 = .ok (.getfield 16, 3) ∧ 1 + 3 = 4 := ⟨by decide +kernel, rfl⟩
theorem dc_C_isFull_4 : decode prog_3_method_3_code 4 = .ok (.bipush 8, 2) ∧ 4 + 2 = 6 := ⟨by decide +kernel, rfl⟩
theorem dc_C_isFull_6 : decode prog_3_method_3_code 6 = .ok (.if_icmp .lt 7, 3) ∧ ((6 : Nat) : Int) + (7) = ((13 : Nat) : Int) ∧ 6 + 3 = 9 := ⟨by decide +kernel, by decide, rfl⟩
theorem dc_C_isFull_9 : decode prog_3_method_3_code 9 = .ok (.iconst 1, 1) ∧ 9 + 1 = 10 := ⟨by decide +kernel, rfl⟩
theorem dc_C_isFull_10 : decode prog_3_method_3_code 10 = .ok (.goto 4, 3) ∧ ((10 : Nat) : Int) + (4) = ((14 : Nat) : Int) := ⟨by decide +kernel, by decide⟩
theorem dc_C_isFull_13 : decode prog_3_method_3_code 13 = .ok (.iconst 0, 1) ∧ 13 + 1 = 14 := ⟨by decide +kernel, rfl⟩
theorem dc_C_isFull_14 : decode prog_3_method_3_code 14 = .ok (.ireturn, 1) := by decide +kernel
theorem dc_C_insert_0 : decode prog_3_method_6_code 0 = .ok (.iconst 0, 1) ∧ 0 + 1 = 1 := ⟨by decide +kernel, rfl⟩
theorem dc_C_insert_1 : decode prog_3_method_6_code 1 = .ok (.istore_n 3, 1) ∧ 1 + 1 = 2 := ⟨by decide +kernel, rfl⟩
theorem dc_C_insert_2 : decode prog_3_method_6_code 2 = .ok (.iload_n 3, 1) ∧ 2 + 1 = 3 := ⟨by decide +kernel, rfl⟩
theorem dc_C_insert_3 : decode prog_3_method_6_code 3 = .ok (.aload_n 0, 1) ∧ 3 + 1 = 4 := ⟨by decide +kernel, rfl⟩
theorem dc_C_insert_4 : decode prog_3_method_6_code 4 = .ok (.getfield 16, 3) ∧ 4 + 3 = 7 := ⟨by decide +kernel, rfl⟩
theorem dc_C_insert_7 : decode prog_3_method_6_code 7 = .ok (.if_icmp .ge 18, 3) ∧ ((7 : Nat) : Int) + (18) = ((25 : Nat) : Int) ∧ 7 + 3 = 10 := ⟨by decide +kernel, by decide, rfl⟩
theorem dc_C_insert_10 : decode prog_3_method_6_code 10 = .ok (.aload_n 0, 1) ∧ 10 + 1 = 11 := ⟨by decide +kernel, rfl⟩
theorem dc_C_insert_11 : decode prog_3_method_6_code 11 = .ok (.iload_n 3, 1) ∧ 11 + 1 = 12 := ⟨by decide +kernel, rfl⟩
theorem dc_C_insert_12 : decode prog_3_method_6_code 12 = .ok (.invokevirtual 30, 3) ∧ 12 + 3 = 15 := ⟨by decide +kernel, rfl⟩
theorem dc_C_insert_15 : decode prog_3_method_6_code 15 = .ok (.iload_n 2, 1) ∧ 15 + 1 = 16 := ⟨by decide +kernel, rfl⟩
theorem dc_C_insert_16 : decode prog_3_method_6_code 16 = .ok (.if_icmp .lt 9, 3) ∧ ((16 : Nat) : Int) + (9) = ((25 : Nat) : Int) ∧ 16 + 3 = 19 := ⟨by decide +kernel, by decide, rfl⟩
theorem dc_C_insert_19 : decode prog_3_method_6_code 19 = .ok (.iinc 3 1, 3) ∧ 19 + 3 = 22 := ⟨by decide +kernel, rfl⟩
theorem dc_C_insert_22 : decode prog_3_method_6_code 22 = .ok (.goto (-20), 3) ∧ ((22 : Nat) : Int) + (-20) = ((2 : Nat) : Int) := ⟨by decide +kernel, by decide⟩
theorem dc_C_insert_25 : decode prog_3_method_6_code 25 = .ok (.aload_n 0, 1) ∧ 25 + 1 = 26 := ⟨by decide +kernel, rfl⟩
theorem dc_C_insert_26 : decode prog_3_method_6_code 26 = .ok (.getfield 9, 3) ∧ 26 + 3 = 29 := ⟨by decide +kernel, rfl⟩
theorem dc_C_insert_29 : decode prog_3_method_6_code 29 = .ok (.iload_n 3, 1) ∧ 29 + 1 = 30 := ⟨by decide +kernel, rfl⟩
theorem dc_C_insert_30 : decode prog_3_method_6_code 30 = .ok (.aload_n 0, 1) ∧ 30 + 1 = 31 := ⟨by decide +kernel, rfl⟩
theorem dc_C_insert_31 : decode prog_3_method_6_code 31 = .ok (.getfield 16, 3) ∧ 31 + 3 = 34 := ⟨by decide +kernel, rfl⟩
theorem dc_C_insert_34 : decode prog_3_method_6_code 34 = .ok (.invokestatic 34, 3) ∧ 34 + 3 = 37 := ⟨by decide +kernel, rfl⟩
theorem dc_C_insert_37 : decode prog_3_method_6_code 37 = .ok (.aload_n 0, 1) ∧ 37 + 1 = 38 := ⟨by decide +kernel, rfl⟩
theorem dc_C_insert_38 : decode prog_3_method_6_code 38 = .ok (.getfield 13, 3) ∧ 38 + 3 = 41 := ⟨by decide +kernel, rfl⟩
theorem dc_C_insert_41 : decode prog_3_method_6_code 41 = .ok (.iload_n 3, 1) ∧ 41 + 1 = 42 := ⟨by decide +kernel, rfl⟩
theorem dc_C_insert_42 : decode prog_3_method_6_code 42 = .ok (.aload_n 0, 1) ∧ 42 + 1 = 43 := ⟨by decide +kernel, rfl⟩
theorem dc_C_insert_43 : decode prog_3_method_6_code 43 = .ok (.getfield 16, 3) ∧ 43 + 3 = 46 := ⟨by decide +kernel, rfl⟩
theorem dc_C_insert_46 : decode prog_3_method_6_code 46 = .ok (.invokestatic 34, 3) ∧ 46 + 3 = 49 := ⟨by decide +kernel, rfl⟩
theorem dc_C_insert_49 : decode prog_3_method_6_code 49 = .ok (.aload_n 0, 1) ∧ 49 + 1 = 50 := ⟨by decide +kernel, rfl⟩
theorem dc_C_insert_50 : decode prog_3_method_6_code 50 = .ok (.getfield 9, 3) ∧ 50 + 3 = 53 := ⟨by decide +kernel, rfl⟩
theorem dc_C_insert_53 : decode prog_3_method_6_code 53 = .ok (.iload_n 3, 1) ∧ 53 + 1 = 54 := ⟨by decide +kernel, rfl⟩
theorem dc_C_insert_54 : decode prog_3_method_6_code 54 = .ok (.iload_n 1, 1) ∧ 54 + 1 = 55 := ⟨by decide +kernel, rfl⟩
theorem dc_C_insert_55 : decode prog_3_method_6_code 55 = .ok (.invokestatic 38, 3) ∧ 55 + 3 = 58 := ⟨by decide +kernel, rfl⟩
theorem dc_C_insert_58 : decode prog_3_method_6_code 58 = .ok (.aload_n 0, 1) ∧ 58 + 1 = 59 := ⟨by decide +kernel, rfl⟩
theorem dc_C_insert_59 : decode prog_3_method_6_code 59 = .ok (.getfield 13, 3) ∧ 59 + 3 = 62 := ⟨by decide +kernel, rfl⟩
theorem dc_C_insert_62 : decode prog_3_method_6_code 62 = .ok (.iload_n 3, 1) ∧ 62 + 1 = 63 := ⟨by decide +kernel, rfl⟩
theorem dc_C_insert_63 : decode prog_3_method_6_code 63 = .ok (.iload_n 2, 1) ∧ 63 + 1 = 64 := ⟨by decide +kernel, rfl⟩
theorem dc_C_insert_64 : decode prog_3_method_6_code 64 = .ok (.invokestatic 38, 3) ∧ 64 + 3 = 67 := ⟨by decide +kernel, rfl⟩
theorem dc_C_insert_67 : decode prog_3_method_6_code 67 = .ok (.aload_n 0, 1) ∧ 67 + 1 = 68 := ⟨by decide +kernel, rfl⟩
theorem dc_C_insert_68 : decode prog_3_method_6_code 68 = .ok (.dup, 1) ∧ 68 + 1 = 69 := ⟨by decide +kernel, rfl⟩
theorem dc_C_insert_69 : decode prog_3_method_6_code 69 = .ok (.getfield 16, 3) ∧ 69 + 3 = 72 := ⟨by decide +kernel, rfl⟩
theorem dc_C_insert_72 : decode prog_3_method_6_code 72 = .ok (.iconst 1, 1) ∧ 72 + 1 = 73 := ⟨by decide +kernel, rfl⟩
theorem dc_C_insert_73 : decode prog_3_method_6_code 73 = .ok (.iadd, 1) ∧ 73 + 1 = 74 := ⟨by decide +kernel, rfl⟩
theorem dc_C_insert_74 : decode prog_3_method_6_code 74 = .ok (.putfield 16, 3) ∧ 74 + 3 = 77 := ⟨by decide +kernel, rfl⟩
theorem dc_C_insert_77 : decode prog_3_method_6_code 77 = .ok (.return_, 1) := by decide +kernel
theorem dc_C_priorityOf_0 : decode prog_3_method_5_code 0 = .ok (.aload_n 0, 1) ∧ 0 + 1 = 1 := ⟨by decide +kernel, rfl⟩
theorem dc_C_priorityOf_1 : decode prog_3_method_5_code 1 = .ok (.getfield 13, 3) ∧ 1 + 3 = 4 := ⟨by decide +kernel, rfl⟩
theorem dc_C_priorityOf_4 : decode prog_3_method_5_code 4 = .ok (.iload_n 1, 1) ∧ 4 + 1 = 5 := ⟨by decide +kernel, rfl⟩
theorem dc_C_priorityOf_5 : decode prog_3_method_5_code 5 = .ok (.invokestatic 26, 3) ∧ 5 + 3 = 8 := ⟨by decide +kernel, rfl⟩
theorem dc_C_priorityOf_8 : decode prog_3_method_5_code 8 = .ok (.ireturn, 1) := by decide +kernel
theorem dc_F_run_0 : decode prog_1_method_11_code 0 = .ok (.iload_n 1, 1) ∧ 0 + 1 = 1 := ⟨by decide +kernel, rfl⟩
theorem dc_F_run_1 : decode prog_1_method_11_code 1 = .ok (.iconst 1, 1) ∧ 1 + 1 = 2 := ⟨by decide +kernel, rfl⟩
theorem dc_F_run_2 : decode prog_1_method_11_code 2 = .ok (.if_icmp .lt 9, 3) ∧ ((2 : Nat) : Int) + (9) = ((11 : Nat) : Int) ∧ 2 + 3 = 5 := ⟨by decide +kernel, by decide, rfl⟩
theorem dc_F_run_5 : decode prog_1_method_11_code 5 = .ok (.iload_n 1, 1) ∧ 5 + 1 = 6 := ⟨by decide +kernel, rfl⟩
theorem dc_F_run_6 : decode prog_1_method_11_code 6 = .ok (.bipush 8, 2) ∧ 6 + 2 = 8 := ⟨by decide +kernel, rfl⟩
theorem dc_F_run_8 : decode prog_1_method_11_code 8 = .ok (.if_icmp .le 6, 3) ∧ ((8 : Nat) : Int) + (6) = ((14 : Nat) : Int) ∧ 8 + 3 = 11 := ⟨by decide +kernel, by decide, rfl⟩
theorem dc_F_run_11 : decode prog_1_method_11_code 11 = .ok (.ldc 45, 2) ∧ 11 + 2 = 13 := ⟨by decide +kernel, rfl⟩
theorem dc_F_run_13 : decode prog_1_method_11_code 13 = .ok (.ireturn, 1) := by decide +kernel
theorem dc_F_run_14 : decode prog_1_method_11_code 14 = .ok (.aload_n 0, 1) ∧ 14 + 1 = 15 := ⟨by decide +kernel, rfl⟩
theorem dc_F_run_15 : decode prog_1_method_11_code 15 = .ok (.getfield 10, 3) ∧ 15 + 3 = 18 := ⟨by decide +kernel, rfl⟩
theorem dc_F_run_18 : decode prog_1_method_11_code 18 = .ok (.getfield 107, 3) ∧ 18 + 3 = 21 := ⟨by decide +kernel, rfl⟩
theorem dc_F_run_21 : decode prog_1_method_11_code 21 = .ok (.getfield 120, 3) ∧ 21 + 3 = 24 := ⟨by decide +kernel, rfl⟩
theorem dc_F_run_24 : decode prog_1_method_11_code 24 = .ok (.ifCond .ne 6, 3) ∧ ((24 : Nat) : Int) + (6) = ((30 : Nat) : Int) ∧ 24 + 3 = 27 := ⟨by decide +kernel, by decide, rfl⟩
theorem dc_F_run_27 : decode prog_1_method_11_code 27 = .ok (.ldc 100, 2) ∧ 27 + 2 = 29 := ⟨by decide +kernel, rfl⟩
theorem dc_F_run_29 : decode prog_1_method_11_code 29 = .ok (.ireturn, 1) := by decide +kernel
theorem dc_F_run_30 : decode prog_1_method_11_code 30 = .ok (.aload_n 0, 1) ∧ 30 + 1 = 31 := ⟨by decide +kernel, rfl⟩
theorem dc_F_run_31 : decode prog_1_method_11_code 31 = .ok (.getfield 30, 3) ∧ 31 + 3 = 34 := ⟨by decide +kernel, rfl⟩
theorem dc_F_run_34 : decode prog_1_method_11_code 34 = .ok (.aload_n 0, 1) ∧ 34 + 1 = 35 := ⟨by decide +kernel, rfl⟩
theorem dc_F_run_35 : decode prog_1_method_11_code 35 = .ok (.getfield 10, 3) ∧ 35 + 3 = 38 := ⟨by decide +kernel, rfl⟩
theorem dc_F_run_38 : decode prog_1_method_11_code 38 = .ok (.invokevirtual 50, 3) ∧ 38 + 3 = 41 := ⟨by decide +kernel, rfl⟩
theorem dc_F_run_41 : decode prog_1_method_11_code 41 = .ok (.iconst 0, 1) ∧ 41 + 1 = 42 := ⟨by decide +kernel, rfl⟩
theorem dc_F_run_42 : decode prog_1_method_11_code 42 = .ok (.istore_n 2, 1) ∧ 42 + 1 = 43 := ⟨by decide +kernel, rfl⟩
theorem dc_F_run_43 : decode prog_1_method_11_code 43 = .ok (.iload_n 2, 1) ∧ 43 + 1 = 44 := ⟨by decide +kernel, rfl⟩
theorem dc_F_run_44 : decode prog_1_method_11_code 44 = .ok (.iload_n 1, 1) ∧ 44 + 1 = 45 := ⟨by decide +kernel, rfl⟩
theorem dc_F_run_45 : decode prog_1_method_11_code 45 = .ok (.if_icmp .ge 29, 3) ∧ ((45 : Nat) : Int) + (29) = ((74 : Nat) : Int) ∧ 45 + 3 = 48 := ⟨by decide +kernel, by decide, rfl⟩
theorem dc_F_run_48 : decode prog_1_method_11_code 48 = .ok (.aload_n 0, 1) ∧ 48 + 1 = 49 := ⟨by decide +kernel, rfl⟩
theorem dc_F_run_49 : decode prog_1_method_11_code 49 = .ok (.getfield 10, 3) ∧ 49 + 3 = 52 := ⟨by decide +kernel, rfl⟩
theorem dc_F_run_52 : decode prog_1_method_11_code 52 = .ok (.getfield 107, 3) ∧ 52 + 3 = 55 := ⟨by decide +kernel, rfl⟩
theorem dc_F_run_55 : decode prog_1_method_11_code 55 = .ok (.getfield 120, 3) ∧ 55 + 3 = 58 := ⟨by decide +kernel, rfl⟩
theorem dc_F_run_58 : decode prog_1_method_11_code 58 = .ok (.ifCond .le 16, 3) ∧ ((58 : Nat) : Int) + (16) = ((74 : Nat) : Int) ∧ 58 + 3 = 61 := ⟨by decide +kernel, by decide, rfl⟩
theorem dc_F_run_61 : decode prog_1_method_11_code 61 = .ok (.aload_n 0, 1) ∧ 61 + 1 = 62 := ⟨by decide +kernel, rfl⟩
theorem dc_F_run_62 : decode prog_1_method_11_code 62 = .ok (.getfield 10, 3) ∧ 62 + 3 = 65 := ⟨by decide +kernel, rfl⟩
theorem dc_F_run_65 : decode prog_1_method_11_code 65 = .ok (.invokevirtual 123, 3) ∧ 65 + 3 = 68 := ⟨by decide +kernel, rfl⟩
theorem dc_F_run_68 : decode prog_1_method_11_code 68 = .ok (.iinc 2 1, 3) ∧ 68 + 3 = 71 := ⟨by decide +kernel, rfl⟩
theorem dc_F_run_71 : decode prog_1_method_11_code 71 = .ok (.goto (-28), 3) ∧ ((71 : Nat) : Int) + (-28) = ((43 : Nat) : Int) := ⟨by decide +kernel, by decide⟩
theorem dc_F_run_74 : decode prog_1_method_11_code 74 = .ok (.aload_n 0, 1) ∧ 74 + 1 = 75 := ⟨by decide +kernel, rfl⟩
theorem dc_F_run_75 : decode prog_1_method_11_code 75 = .ok (.getfield 10, 3) ∧ 75 + 3 = 78 := ⟨by decide +kernel, rfl⟩
theorem dc_F_run_78 : decode prog_1_method_11_code 78 = .ok (.getfield 107, 3) ∧ 78 + 3 = 81 := ⟨by decide +kernel, rfl⟩
theorem dc_F_run_81 : decode prog_1_method_11_code 81 = .ok (.getfield 120, 3) ∧ 81 + 3 = 84 := ⟨by decide +kernel, rfl⟩
theorem dc_F_run_84 : decode prog_1_method_11_code 84 = .ok (.ireturn, 1) := by decide +kernel
theorem dc_A_carryOutNext_0 : decode prog_2_method_15_code 0 = .ok (.aload_n 0, 1) ∧ 0 + 1 = 1 := ⟨by decide +kernel, rfl⟩
theorem dc_A_carryOutNext_1 : decode prog_2_method_15_code 1 = .ok (.aload_n 0, 1) ∧ 1 + 1 = 2 := ⟨by decide +kernel, rfl⟩
theorem dc_A_carryOutNext_2 : decode prog_2_method_15_code 2 = .ok (.getfield 31, 3) ∧ 2 + 3 = 5 := ⟨by decide +kernel, rfl⟩
theorem dc_A_carryOutNext_5 : decode prog_2_method_15_code 5 = .ok (.invokevirtual 157, 3) ∧ 5 + 3 = 8 := ⟨by decide +kernel, rfl⟩
theorem dc_A_carryOutNext_8 : decode prog_2_method_15_code 8 = .ok (.invokevirtual 154, 3) ∧ 8 + 3 = 11 := ⟨by decide +kernel, rfl⟩
theorem dc_A_carryOutNext_11 : decode prog_2_method_15_code 11 = .ok (.pop, 1) ∧ 11 + 1 = 12 := ⟨by decide +kernel, rfl⟩
theorem dc_A_carryOutNext_12 : decode prog_2_method_15_code 12 = .ok (.return_, 1) := by decide +kernel
theorem dc_C_takeNext_0 : decode prog_3_method_7_code 0 = .ok (.aload_n 0, 1) ∧ 0 + 1 = 1 := ⟨by decide +kernel, rfl⟩
theorem dc_C_takeNext_1 : decode prog_3_method_7_code 1 = .ok (.iconst 0, 1) ∧ 1 + 1 = 2 := ⟨by decide +kernel, rfl⟩
theorem dc_C_takeNext_2 : decode prog_3_method_7_code 2 = .ok (.invokevirtual 41, 3) ∧ 2 + 3 = 5 := ⟨by decide +kernel, rfl⟩
theorem dc_C_takeNext_5 : decode prog_3_method_7_code 5 = .ok (.istore_n 1, 1) ∧ 5 + 1 = 6 := ⟨by decide +kernel, rfl⟩
theorem dc_C_takeNext_6 : decode prog_3_method_7_code 6 = .ok (.aload_n 0, 1) ∧ 6 + 1 = 7 := ⟨by decide +kernel, rfl⟩
theorem dc_C_takeNext_7 : decode prog_3_method_7_code 7 = .ok (.getfield 9, 3) ∧ 7 + 3 = 10 := ⟨by decide +kernel, rfl⟩
theorem dc_C_takeNext_10 : decode prog_3_method_7_code 10 = .ok (.iconst 0, 1) ∧ 10 + 1 = 11 := ⟨by decide +kernel, rfl⟩
theorem dc_C_takeNext_11 : decode prog_3_method_7_code 11 = .ok (.aload_n 0, 1) ∧ 11 + 1 = 12 := ⟨by decide +kernel, rfl⟩
theorem dc_C_takeNext_12 : decode prog_3_method_7_code 12 = .ok (.getfield 16, 3) ∧ 12 + 3 = 15 := ⟨by decide +kernel, rfl⟩
theorem dc_C_takeNext_15 : decode prog_3_method_7_code 15 = .ok (.invokestatic 44, 3) ∧ 15 + 3 = 18 := ⟨by decide +kernel, rfl⟩
theorem dc_C_takeNext_18 : decode prog_3_method_7_code 18 = .ok (.aload_n 0, 1) ∧ 18 + 1 = 19 := ⟨by decide +kernel, rfl⟩
theorem dc_C_takeNext_19 : decode prog_3_method_7_code 19 = .ok (.getfield 13, 3) ∧ 19 + 3 = 22 := ⟨by decide +kernel, rfl⟩
theorem dc_C_takeNext_22 : decode prog_3_method_7_code 22 = .ok (.iconst 0, 1) ∧ 22 + 1 = 23 := ⟨by decide +kernel, rfl⟩
theorem dc_C_takeNext_23 : decode prog_3_method_7_code 23 = .ok (.aload_n 0, 1) ∧ 23 + 1 = 24 := ⟨by decide +kernel, rfl⟩
theorem dc_C_takeNext_24 : decode prog_3_method_7_code 24 = .ok (.getfield 16, 3) ∧ 24 + 3 = 27 := ⟨by decide +kernel, rfl⟩
theorem dc_C_takeNext_27 : decode prog_3_method_7_code 27 = .ok (.invokestatic 44, 3) ∧ 27 + 3 = 30 := ⟨by decide +kernel, rfl⟩
theorem dc_C_takeNext_30 : decode prog_3_method_7_code 30 = .ok (.aload_n 0, 1) ∧ 30 + 1 = 31 := ⟨by decide +kernel, rfl⟩
theorem dc_C_takeNext_31 : decode prog_3_method_7_code 31 = .ok (.dup, 1) ∧ 31 + 1 = 32 := ⟨by decide +kernel, rfl⟩
theorem dc_C_takeNext_32 : decode prog_3_method_7_code 32 = .ok (.getfield 16, 3) ∧ 32 + 3 = 35 := ⟨by decide +kernel, rfl⟩
theorem dc_C_takeNext_35 : decode prog_3_method_7_code 35 = .ok (.iconst 1, 1) ∧ 35 + 1 = 36 := ⟨by decide +kernel, rfl⟩
theorem dc_C_takeNext_36 : decode prog_3_method_7_code 36 = .ok (.isub, 1) ∧ 36 + 1 = 37 := ⟨by decide +kernel, rfl⟩
theorem dc_C_takeNext_37 : decode prog_3_method_7_code 37 = .ok (.putfield 16, 3) ∧ 37 + 3 = 40 := ⟨by decide +kernel, rfl⟩
theorem dc_C_takeNext_40 : decode prog_3_method_7_code 40 = .ok (.iload_n 1, 1) ∧ 40 + 1 = 41 := ⟨by decide +kernel, rfl⟩
theorem dc_C_takeNext_41 : decode prog_3_method_7_code 41 = .ok (.ireturn, 1) := by decide +kernel
theorem dc_C_placeOf_0 : decode prog_3_method_4_code 0 = .ok (.aload_n 0, 1) ∧ 0 + 1 = 1 := ⟨by decide +kernel, rfl⟩
theorem dc_C_placeOf_1 : decode prog_3_method_4_code 1 = .ok (.getfield 9, 3) ∧ 1 + 3 = 4 := ⟨by decide +kernel, rfl⟩
theorem dc_C_placeOf_4 : decode prog_3_method_4_code 4 = .ok (.iload_n 1, 1) ∧ 4 + 1 = 5 := ⟨by decide +kernel, rfl⟩
theorem dc_C_placeOf_5 : decode prog_3_method_4_code 5 = .ok (.invokestatic 26, 3) ∧ 5 + 3 = 8 := ⟨by decide +kernel, rfl⟩
theorem dc_C_placeOf_8 : decode prog_3_method_4_code 8 = .ok (.ireturn, 1) := by decide +kernel
theorem dc_F_home_0 : decode prog_1_method_12_code 0 = .ok (.aload_n 0, 1) ∧ 0 + 1 = 1 := ⟨by decide +kernel, rfl⟩
theorem dc_F_home_1 : decode prog_1_method_12_code 1 = .ok (.iload_n 1, 1) ∧ 1 + 1 = 2 := ⟨by decide +kernel, rfl⟩
theorem dc_F_home_2 : decode prog_1_method_12_code 2 = .ok (.invokevirtual 126, 3) ∧ 2 + 3 = 5 := ⟨by decide +kernel, rfl⟩
theorem dc_F_home_5 : decode prog_1_method_12_code 5 = .ok (.istore_n 2, 1) ∧ 5 + 1 = 6 := ⟨by decide +kernel, rfl⟩
theorem dc_F_home_6 : decode prog_1_method_12_code 6 = .ok (.iload_n 2, 1) ∧ 6 + 1 = 7 := ⟨by decide +kernel, rfl⟩
theorem dc_F_home_7 : decode prog_1_method_12_code 7 = .ok (.ifCond .eq 5, 3) ∧ ((7 : Nat) : Int) + (5) = ((12 : Nat) : Int) ∧ 7 + 3 = 10 := ⟨by decide +kernel, by decide, rfl⟩
theorem dc_F_home_10 : decode prog_1_method_12_code 10 = .ok (.iload_n 2, 1) ∧ 10 + 1 = 11 := ⟨by decide +kernel, rfl⟩
theorem dc_F_home_11 : decode prog_1_method_12_code 11 = .ok (.ireturn, 1) := by decide +kernel
theorem dc_F_home_12 : decode prog_1_method_12_code 12 = .ok (.aload_n 0, 1) ∧ 12 + 1 = 13 := ⟨by decide +kernel, rfl⟩
theorem dc_F_home_13 : decode prog_1_method_12_code 13 = .ok (.getfield 16, 3) ∧ 13 + 3 = 16 := ⟨by decide +kernel, rfl⟩
theorem dc_F_home_16 : decode prog_1_method_12_code 16 = .ok (.iload_n 1, 1) ∧ 16 + 1 = 17 := ⟨by decide +kernel, rfl⟩
theorem dc_F_home_17 : decode prog_1_method_12_code 17 = .ok (.invokevirtual 129, 3) ∧ 17 + 3 = 20 := ⟨by decide +kernel, rfl⟩
theorem dc_F_home_20 : decode prog_1_method_12_code 20 = .ok (.aload_n 0, 1) ∧ 20 + 1 = 21 := ⟨by decide +kernel, rfl⟩
theorem dc_F_home_21 : decode prog_1_method_12_code 21 = .ok (.getfield 16, 3) ∧ 21 + 3 = 24 := ⟨by decide +kernel, rfl⟩
theorem dc_F_home_24 : decode prog_1_method_12_code 24 = .ok (.getfield 132, 3) ∧ 24 + 3 = 27 := ⟨by decide +kernel, rfl⟩
theorem dc_F_home_27 : decode prog_1_method_12_code 27 = .ok (.isub, 1) ∧ 27 + 1 = 28 := ⟨by decide +kernel, rfl⟩
theorem dc_F_home_28 : decode prog_1_method_12_code 28 = .ok (.istore_n 3, 1) ∧ 28 + 1 = 29 := ⟨by decide +kernel, rfl⟩
theorem dc_F_home_29 : decode prog_1_method_12_code 29 = .ok (.aload_n 0, 1) ∧ 29 + 1 = 30 := ⟨by decide +kernel, rfl⟩
theorem dc_F_home_30 : decode prog_1_method_12_code 30 = .ok (.getfield 16, 3) ∧ 30 + 3 = 33 := ⟨by decide +kernel, rfl⟩
theorem dc_F_home_33 : decode prog_1_method_12_code 33 = .ok (.iload_n 3, 1) ∧ 33 + 1 = 34 := ⟨by decide +kernel, rfl⟩
theorem dc_F_home_34 : decode prog_1_method_12_code 34 = .ok (.invokevirtual 135, 3) ∧ 34 + 3 = 37 := ⟨by decide +kernel, rfl⟩
theorem dc_F_home_37 : decode prog_1_method_12_code 37 = .ok (.aload_n 0, 1) ∧ 37 + 1 = 38 := ⟨by decide +kernel, rfl⟩
theorem dc_F_home_38 : decode prog_1_method_12_code 38 = .ok (.invokevirtual 94, 3) ∧ 38 + 3 = 41 := ⟨by decide +kernel, rfl⟩
theorem dc_F_home_41 : decode prog_1_method_12_code 41 = .ok (.iload_n 3, 1) ∧ 41 + 1 = 42 := ⟨by decide +kernel, rfl⟩
theorem dc_F_home_42 : decode prog_1_method_12_code 42 = .ok (.ireturn, 1) := by decide +kernel
theorem dc_F_seekOnTrial_0 : decode prog_1_method_30_code 0 = .ok (.iload_n 1, 1) ∧ 0 + 1 = 1 := ⟨by decide +kernel, rfl⟩
theorem dc_F_seekOnTrial_1 : decode prog_1_method_30_code 1 = .ok (.ifCond .lt 8, 3) ∧ ((1 : Nat) : Int) + (8) = ((9 : Nat) : Int) ∧ 1 + 3 = 4 := ⟨by decide +kernel, by decide, rfl⟩
theorem dc_F_seekOnTrial_4 : decode prog_1_method_30_code 4 = .ok (.iload_n 1, 1) ∧ 4 + 1 = 5 := ⟨by decide +kernel, rfl⟩
theorem dc_F_seekOnTrial_5 : decode prog_1_method_30_code 5 = .ok (.iconst 1, 1) ∧ 5 + 1 = 6 := ⟨by decide +kernel, rfl⟩
theorem dc_F_seekOnTrial_6 : decode prog_1_method_30_code 6 = .ok (.if_icmp .le 6, 3) ∧ ((6 : Nat) : Int) + (6) = ((12 : Nat) : Int) ∧ 6 + 3 = 9 := ⟨by decide +kernel, by decide, rfl⟩
theorem dc_F_seekOnTrial_9 : decode prog_1_method_30_code 9 = .ok (.ldc 45, 2) ∧ 9 + 2 = 11 := ⟨by decide +kernel, rfl⟩
theorem dc_F_seekOnTrial_11 : decode prog_1_method_30_code 11 = .ok (.ireturn, 1) := by decide +kernel
theorem dc_F_seekOnTrial_12 : decode prog_1_method_30_code 12 = .ok (.aload_n 0, 1) ∧ 12 + 1 = 13 := ⟨by decide +kernel, rfl⟩
theorem dc_F_seekOnTrial_13 : decode prog_1_method_30_code 13 = .ok (.getfield 10, 3) ∧ 13 + 3 = 16 := ⟨by decide +kernel, rfl⟩
theorem dc_F_seekOnTrial_16 : decode prog_1_method_30_code 16 = .ok (.getfield 73, 3) ∧ 16 + 3 = 19 := ⟨by decide +kernel, rfl⟩
theorem dc_F_seekOnTrial_19 : decode prog_1_method_30_code 19 = .ok (.ifCond .ne 6, 3) ∧ ((19 : Nat) : Int) + (6) = ((25 : Nat) : Int) ∧ 19 + 3 = 22 := ⟨by decide +kernel, by decide, rfl⟩
theorem dc_F_seekOnTrial_22 : decode prog_1_method_30_code 22 = .ok (.ldc 100, 2) ∧ 22 + 2 = 24 := ⟨by decide +kernel, rfl⟩
theorem dc_F_seekOnTrial_24 : decode prog_1_method_30_code 24 = .ok (.ireturn, 1) := by decide +kernel
theorem dc_F_seekOnTrial_25 : decode prog_1_method_30_code 25 = .ok (.aload_n 0, 1) ∧ 25 + 1 = 26 := ⟨by decide +kernel, rfl⟩
theorem dc_F_seekOnTrial_26 : decode prog_1_method_30_code 26 = .ok (.getfield 16, 3) ∧ 26 + 3 = 29 := ⟨by decide +kernel, rfl⟩
theorem dc_F_seekOnTrial_29 : decode prog_1_method_30_code 29 = .ok (.aload_n 0, 1) ∧ 29 + 1 = 30 := ⟨by decide +kernel, rfl⟩
theorem dc_F_seekOnTrial_30 : decode prog_1_method_30_code 30 = .ok (.getfield 10, 3) ∧ 30 + 3 = 33 := ⟨by decide +kernel, rfl⟩
theorem dc_F_seekOnTrial_33 : decode prog_1_method_30_code 33 = .ok (.invokevirtual 87, 3) ∧ 33 + 3 = 36 := ⟨by decide +kernel, rfl⟩
theorem dc_F_seekOnTrial_36 : decode prog_1_method_30_code 36 = .ok (.aload_n 0, 1) ∧ 36 + 1 = 37 := ⟨by decide +kernel, rfl⟩
theorem dc_F_seekOnTrial_37 : decode prog_1_method_30_code 37 = .ok (.getfield 16, 3) ∧ 37 + 3 = 40 := ⟨by decide +kernel, rfl⟩
theorem dc_F_seekOnTrial_40 : decode prog_1_method_30_code 40 = .ok (.iload_n 1, 1) ∧ 40 + 1 = 41 := ⟨by decide +kernel, rfl⟩
theorem dc_F_seekOnTrial_41 : decode prog_1_method_30_code 41 = .ok (.invokevirtual 221, 3) ∧ 41 + 3 = 44 := ⟨by decide +kernel, rfl⟩
theorem dc_F_seekOnTrial_44 : decode prog_1_method_30_code 44 = .ok (.ifCond .eq 7, 3) ∧ ((44 : Nat) : Int) + (7) = ((51 : Nat) : Int) ∧ 44 + 3 = 47 := ⟨by decide +kernel, by decide, rfl⟩
theorem dc_F_seekOnTrial_47 : decode prog_1_method_30_code 47 = .ok (.iconst 0, 1) ∧ 47 + 1 = 48 := ⟨by decide +kernel, rfl⟩
theorem dc_F_seekOnTrial_48 : decode prog_1_method_30_code 48 = .ok (.goto 5, 3) ∧ ((48 : Nat) : Int) + (5) = ((53 : Nat) : Int) := ⟨by decide +kernel, by decide⟩
theorem dc_F_seekOnTrial_51 : decode prog_1_method_30_code 51 = .ok (.ldc 174, 2) ∧ 51 + 2 = 53 := ⟨by decide +kernel, rfl⟩
theorem dc_F_seekOnTrial_53 : decode prog_1_method_30_code 53 = .ok (.ireturn, 1) := by decide +kernel
theorem dc_A_seek_0 : decode prog_2_method_16_code 0 = .ok (.iload_n 1, 1) ∧ 0 + 1 = 1 := ⟨by decide +kernel, rfl⟩
theorem dc_A_seek_1 : decode prog_2_method_16_code 1 = .ok (.ifCond .ne 7, 3) ∧ ((1 : Nat) : Int) + (7) = ((8 : Nat) : Int) ∧ 1 + 3 = 4 := ⟨by decide +kernel, by decide, rfl⟩
theorem dc_A_seek_4 : decode prog_2_method_16_code 4 = .ok (.iconst (-1), 1) ∧ 4 + 1 = 5 := ⟨by decide +kernel, rfl⟩
theorem dc_A_seek_5 : decode prog_2_method_16_code 5 = .ok (.goto 4, 3) ∧ ((5 : Nat) : Int) + (4) = ((9 : Nat) : Int) := ⟨by decide +kernel, by decide⟩
theorem dc_A_seek_8 : decode prog_2_method_16_code 8 = .ok (.iconst 1, 1) ∧ 8 + 1 = 9 := ⟨by decide +kernel, rfl⟩
theorem dc_A_seek_9 : decode prog_2_method_16_code 9 = .ok (.istore_n 2, 1) ∧ 9 + 1 = 10 := ⟨by decide +kernel, rfl⟩
theorem dc_A_seek_10 : decode prog_2_method_16_code 10 = .ok (.iload_n 1, 1) ∧ 10 + 1 = 11 := ⟨by decide +kernel, rfl⟩
theorem dc_A_seek_11 : decode prog_2_method_16_code 11 = .ok (.ifCond .ne 10, 3) ∧ ((11 : Nat) : Int) + (10) = ((21 : Nat) : Int) ∧ 11 + 3 = 14 := ⟨by decide +kernel, by decide, rfl⟩
theorem dc_A_seek_14 : decode prog_2_method_16_code 14 = .ok (.aload_n 0, 1) ∧ 14 + 1 = 15 := ⟨by decide +kernel, rfl⟩
theorem dc_A_seek_15 : decode prog_2_method_16_code 15 = .ok (.getfield 52, 3) ∧ 15 + 3 = 18 := ⟨by decide +kernel, rfl⟩
theorem dc_A_seek_18 : decode prog_2_method_16_code 18 = .ok (.goto 7, 3) ∧ ((18 : Nat) : Int) + (7) = ((25 : Nat) : Int) := ⟨by decide +kernel, by decide⟩
theorem dc_A_seek_21 : decode prog_2_method_16_code 21 = .ok (.aload_n 0, 1) ∧ 21 + 1 = 22 := ⟨by decide +kernel, rfl⟩
theorem dc_A_seek_22 : decode prog_2_method_16_code 22 = .ok (.getfield 56, 3) ∧ 22 + 3 = 25 := ⟨by decide +kernel, rfl⟩
theorem dc_A_seek_25 : decode prog_2_method_16_code 25 = .ok (.istore_n 3, 1) ∧ 25 + 1 = 26 := ⟨by decide +kernel, rfl⟩
theorem dc_A_seek_26 : decode prog_2_method_16_code 26 = .ok (.sipush 20000, 3) ∧ 26 + 3 = 29 := ⟨by decide +kernel, rfl⟩
theorem dc_A_seek_29 : decode prog_2_method_16_code 29 = .ok (.istore 4, 2) ∧ 29 + 2 = 31 := ⟨by decide +kernel, rfl⟩
theorem dc_A_seek_31 : decode prog_2_method_16_code 31 = .ok (.iload 4, 2) ∧ 31 + 2 = 33 := ⟨by decide +kernel, rfl⟩
theorem dc_A_seek_33 : decode prog_2_method_16_code 33 = .ok (.ifCond .le 26, 3) ∧ ((33 : Nat) : Int) + (26) = ((59 : Nat) : Int) ∧ 33 + 3 = 36 := ⟨by decide +kernel, by decide, rfl⟩
theorem dc_A_seek_36 : decode prog_2_method_16_code 36 = .ok (.aload_n 0, 1) ∧ 36 + 1 = 37 := ⟨by decide +kernel, rfl⟩
theorem dc_A_seek_37 : decode prog_2_method_16_code 37 = .ok (.iload_n 3, 1) ∧ 37 + 1 = 38 := ⟨by decide +kernel, rfl⟩
theorem dc_A_seek_38 : decode prog_2_method_16_code 38 = .ok (.iload_n 2, 1) ∧ 38 + 1 = 39 := ⟨by decide +kernel, rfl⟩
theorem dc_A_seek_39 : decode prog_2_method_16_code 39 = .ok (.invokevirtual 161, 3) ∧ 39 + 3 = 42 := ⟨by decide +kernel, rfl⟩
theorem dc_A_seek_42 : decode prog_2_method_16_code 42 = .ok (.bipush 16, 2) ∧ 42 + 2 = 44 := ⟨by decide +kernel, rfl⟩
theorem dc_A_seek_44 : decode prog_2_method_16_code 44 = .ok (.if_icmp .gt 15, 3) ∧ ((44 : Nat) : Int) + (15) = ((59 : Nat) : Int) ∧ 44 + 3 = 47 := ⟨by decide +kernel, by decide, rfl⟩
theorem dc_A_seek_47 : decode prog_2_method_16_code 47 = .ok (.aload_n 0, 1) ∧ 47 + 1 = 48 := ⟨by decide +kernel, rfl⟩
theorem dc_A_seek_48 : decode prog_2_method_16_code 48 = .ok (.iload_n 2, 1) ∧ 48 + 1 = 49 := ⟨by decide +kernel, rfl⟩
theorem dc_A_seek_49 : decode prog_2_method_16_code 49 = .ok (.iconst 1, 1) ∧ 49 + 1 = 50 := ⟨by decide +kernel, rfl⟩
theorem dc_A_seek_50 : decode prog_2_method_16_code 50 = .ok (.invokevirtual 147, 3) ∧ 50 + 3 = 53 := ⟨by decide +kernel, rfl⟩
theorem dc_A_seek_53 : decode prog_2_method_16_code 53 = .ok (.iinc 4 (-1), 3) ∧ 53 + 3 = 56 := ⟨by decide +kernel, rfl⟩
theorem dc_A_seek_56 : decode prog_2_method_16_code 56 = .ok (.goto (-25), 3) ∧ ((56 : Nat) : Int) + (-25) = ((31 : Nat) : Int) := ⟨by decide +kernel, by decide⟩
theorem dc_A_seek_59 : decode prog_2_method_16_code 59 = .ok (.aload_n 0, 1) ∧ 59 + 1 = 60 := ⟨by decide +kernel, rfl⟩
theorem dc_A_seek_60 : decode prog_2_method_16_code 60 = .ok (.iload_n 3, 1) ∧ 60 + 1 = 61 := ⟨by decide +kernel, rfl⟩
theorem dc_A_seek_61 : decode prog_2_method_16_code 61 = .ok (.iload_n 2, 1) ∧ 61 + 1 = 62 := ⟨by decide +kernel, rfl⟩
theorem dc_A_seek_62 : decode prog_2_method_16_code 62 = .ok (.invokevirtual 161, 3) ∧ 62 + 3 = 65 := ⟨by decide +kernel, rfl⟩
theorem dc_A_seek_65 : decode prog_2_method_16_code 65 = .ok (.bipush 16, 2) ∧ 65 + 2 = 67 := ⟨by decide +kernel, rfl⟩
theorem dc_A_seek_67 : decode prog_2_method_16_code 67 = .ok (.if_icmp .gt 5, 3) ∧ ((67 : Nat) : Int) + (5) = ((72 : Nat) : Int) ∧ 67 + 3 = 70 := ⟨by decide +kernel, by decide, rfl⟩
theorem dc_A_seek_70 : decode prog_2_method_16_code 70 = .ok (.iconst 0, 1) ∧ 70 + 1 = 71 := ⟨by decide +kernel, rfl⟩
theorem dc_A_seek_71 : decode prog_2_method_16_code 71 = .ok (.ireturn, 1) := by decide +kernel
theorem dc_A_seek_72 : decode prog_2_method_16_code 72 = .ok (.iload 4, 2) ∧ 72 + 2 = 74 := ⟨by decide +kernel, rfl⟩
theorem dc_A_seek_74 : decode prog_2_method_16_code 74 = .ok (.ifCond .le 25, 3) ∧ ((74 : Nat) : Int) + (25) = ((99 : Nat) : Int) ∧ 74 + 3 = 77 := ⟨by decide +kernel, by decide, rfl⟩
theorem dc_A_seek_77 : decode prog_2_method_16_code 77 = .ok (.aload_n 0, 1) ∧ 77 + 1 = 78 := ⟨by decide +kernel, rfl⟩
theorem dc_A_seek_78 : decode prog_2_method_16_code 78 = .ok (.iload_n 3, 1) ∧ 78 + 1 = 79 := ⟨by decide +kernel, rfl⟩
theorem dc_A_seek_79 : decode prog_2_method_16_code 79 = .ok (.iload_n 2, 1) ∧ 79 + 1 = 80 := ⟨by decide +kernel, rfl⟩
theorem dc_A_seek_80 : decode prog_2_method_16_code 80 = .ok (.invokevirtual 161, 3) ∧ 80 + 3 = 83 := ⟨by decide +kernel, rfl⟩
theorem dc_A_seek_83 : decode prog_2_method_16_code 83 = .ok (.ifCond .le 16, 3) ∧ ((83 : Nat) : Int) + (16) = ((99 : Nat) : Int) ∧ 83 + 3 = 86 := ⟨by decide +kernel, by decide, rfl⟩
theorem dc_A_seek_86 : decode prog_2_method_16_code 86 = .ok (.aload_n 0, 1) ∧ 86 + 1 = 87 := ⟨by decide +kernel, rfl⟩
theorem dc_A_seek_87 : decode prog_2_method_16_code 87 = .ok (.iload_n 2, 1) ∧ 87 + 1 = 88 := ⟨by decide +kernel, rfl⟩
theorem dc_A_seek_88 : decode prog_2_method_16_code 88 = .ok (.ineg, 1) ∧ 88 + 1 = 89 := ⟨by decide +kernel, rfl⟩
theorem dc_A_seek_89 : decode prog_2_method_16_code 89 = .ok (.iconst 1, 1) ∧ 89 + 1 = 90 := ⟨by decide +kernel, rfl⟩
theorem dc_A_seek_90 : decode prog_2_method_16_code 90 = .ok (.invokevirtual 147, 3) ∧ 90 + 3 = 93 := ⟨by decide +kernel, rfl⟩
theorem dc_A_seek_93 : decode prog_2_method_16_code 93 = .ok (.iinc 4 (-1), 3) ∧ 93 + 3 = 96 := ⟨by decide +kernel, rfl⟩
theorem dc_A_seek_96 : decode prog_2_method_16_code 96 = .ok (.goto (-24), 3) ∧ ((96 : Nat) : Int) + (-24) = ((72 : Nat) : Int) := ⟨by decide +kernel, by decide⟩
theorem dc_A_seek_99 : decode prog_2_method_16_code 99 = .ok (.aload_n 0, 1) ∧ 99 + 1 = 100 := ⟨by decide +kernel, rfl⟩
theorem dc_A_seek_100 : decode prog_2_method_16_code 100 = .ok (.iload_n 3, 1) ∧ 100 + 1 = 101 := ⟨by decide +kernel, rfl⟩
theorem dc_A_seek_101 : decode prog_2_method_16_code 101 = .ok (.iload_n 2, 1) ∧ 101 + 1 = 102 := ⟨by decide +kernel, rfl⟩
theorem dc_A_seek_102 : decode prog_2_method_16_code 102 = .ok (.invokevirtual 161, 3) ∧ 102 + 3 = 105 := ⟨by decide +kernel, rfl⟩
theorem dc_A_seek_105 : decode prog_2_method_16_code 105 = .ok (.ifCond .le 5, 3) ∧ ((105 : Nat) : Int) + (5) = ((110 : Nat) : Int) ∧ 105 + 3 = 108 := ⟨by decide +kernel, by decide, rfl⟩
theorem dc_A_seek_108 : decode prog_2_method_16_code 108 = .ok (.iconst 0, 1) ∧ 108 + 1 = 109 := ⟨by decide +kernel, rfl⟩
theorem dc_A_seek_109 : decode prog_2_method_16_code 109 = .ok (.ireturn, 1) := by decide +kernel
theorem dc_A_seek_110 : decode prog_2_method_16_code 110 = .ok (.aload_n 0, 1) ∧ 110 + 1 = 111 := ⟨by decide +kernel, rfl⟩
theorem dc_A_seek_111 : decode prog_2_method_16_code 111 = .ok (.iconst 5, 1) ∧ 111 + 1 = 112 := ⟨by decide +kernel, rfl⟩
theorem dc_A_seek_112 : decode prog_2_method_16_code 112 = .ok (.iconst 1, 1) ∧ 112 + 1 = 113 := ⟨by decide +kernel, rfl⟩
theorem dc_A_seek_113 : decode prog_2_method_16_code 113 = .ok (.invokevirtual 164, 3) ∧ 113 + 3 = 116 := ⟨by decide +kernel, rfl⟩
theorem dc_A_seek_116 : decode prog_2_method_16_code 116 = .ok (.iconst 1, 1) ∧ 116 + 1 = 117 := ⟨by decide +kernel, rfl⟩
theorem dc_A_seek_117 : decode prog_2_method_16_code 117 = .ok (.ireturn, 1) := by decide +kernel
theorem dc_A_ticksBeyond_0 : decode prog_2_method_20_code 0 = .ok (.aload_n 0, 1) ∧ 0 + 1 = 1 := ⟨by decide +kernel, rfl⟩
theorem dc_A_ticksBeyond_1 : decode prog_2_method_20_code 1 = .ok (.getfield 65, 3) ∧ 1 + 3 = 4 := ⟨by decide +kernel, rfl⟩
theorem dc_A_ticksBeyond_4 : decode prog_2_method_20_code 4 = .ok (.iload_n 1, 1) ∧ 4 + 1 = 5 := ⟨by decide +kernel, rfl⟩
theorem dc_A_ticksBeyond_5 : decode prog_2_method_20_code 5 = .ok (.isub, 1) ∧ 5 + 1 = 6 := ⟨by decide +kernel, rfl⟩
theorem dc_A_ticksBeyond_6 : decode prog_2_method_20_code 6 = .ok (.iload_n 2, 1) ∧ 6 + 1 = 7 := ⟨by decide +kernel, rfl⟩
theorem dc_A_ticksBeyond_7 : decode prog_2_method_20_code 7 = .ok (.imul, 1) ∧ 7 + 1 = 8 := ⟨by decide +kernel, rfl⟩
theorem dc_A_ticksBeyond_8 : decode prog_2_method_20_code 8 = .ok (.ireturn, 1) := by decide +kernel
theorem dc_A_counterDue_0 : decode prog_2_method_17_code 0 = .ok (.iload_n 1, 1) ∧ 0 + 1 = 1 := ⟨by decide +kernel, rfl⟩
theorem dc_A_counterDue_1 : decode prog_2_method_17_code 1 = .ok (.ifCond .ne 16, 3) ∧ ((1 : Nat) : Int) + (16) = ((17 : Nat) : Int) ∧ 1 + 3 = 4 := ⟨by decide +kernel, by decide, rfl⟩
theorem dc_A_counterDue_4 : decode prog_2_method_17_code 4 = .ok (.aload_n 0, 1) ∧ 4 + 1 = 5 := ⟨by decide +kernel, rfl⟩
theorem dc_A_counterDue_5 : decode prog_2_method_17_code 5 = .ok (.getfield 52, 3) ∧ 5 + 3 = 8 := ⟨by decide +kernel, rfl⟩
theorem dc_A_counterDue_8 : decode prog_2_method_17_code 8 = .ok (.aload_n 0, 1) ∧ 8 + 1 = 9 := ⟨by decide +kernel, rfl⟩
theorem dc_A_counterDue_9 : decode prog_2_method_17_code 9 = .ok (.iconst 5, 1) ∧ 9 + 1 = 10 := ⟨by decide +kernel, rfl⟩
theorem dc_A_counterDue_10 : decode prog_2_method_17_code 10 = .ok (.invokevirtual 97, 3) ∧ 10 + 3 = 13 := ⟨by decide +kernel, rfl⟩
theorem dc_A_counterDue_13 : decode prog_2_method_17_code 13 = .ok (.iadd, 1) ∧ 13 + 1 = 14 := ⟨by decide +kernel, rfl⟩
theorem dc_A_counterDue_14 : decode prog_2_method_17_code 14 = .ok (.goto 7, 3) ∧ ((14 : Nat) : Int) + (7) = ((21 : Nat) : Int) := ⟨by decide +kernel, by decide⟩
theorem dc_A_counterDue_17 : decode prog_2_method_17_code 17 = .ok (.aload_n 0, 1) ∧ 17 + 1 = 18 := ⟨by decide +kernel, rfl⟩
theorem dc_A_counterDue_18 : decode prog_2_method_17_code 18 = .ok (.getfield 56, 3) ∧ 18 + 3 = 21 := ⟨by decide +kernel, rfl⟩
theorem dc_A_counterDue_21 : decode prog_2_method_17_code 21 = .ok (.ireturn, 1) := by decide +kernel
theorem dc_A_moveCounterAlone_0 : decode prog_2_method_18_code 0 = .ok (.aload_n 0, 1) ∧ 0 + 1 = 1 := ⟨by decide +kernel, rfl⟩
theorem dc_A_moveCounterAlone_1 : decode prog_2_method_18_code 1 = .ok (.dup, 1) ∧ 1 + 1 = 2 := ⟨by decide +kernel, rfl⟩
theorem dc_A_moveCounterAlone_2 : decode prog_2_method_18_code 2 = .ok (.getfield 59, 3) ∧ 2 + 3 = 5 := ⟨by decide +kernel, rfl⟩
theorem dc_A_moveCounterAlone_5 : decode prog_2_method_18_code 5 = .ok (.iload_n 1, 1) ∧ 5 + 1 = 6 := ⟨by decide +kernel, rfl⟩
theorem dc_A_moveCounterAlone_6 : decode prog_2_method_18_code 6 = .ok (.iadd, 1) ∧ 6 + 1 = 7 := ⟨by decide +kernel, rfl⟩
theorem dc_A_moveCounterAlone_7 : decode prog_2_method_18_code 7 = .ok (.putfield 59, 3) ∧ 7 + 3 = 10 := ⟨by decide +kernel, rfl⟩
theorem dc_A_moveCounterAlone_10 : decode prog_2_method_18_code 10 = .ok (.aload_n 0, 1) ∧ 10 + 1 = 11 := ⟨by decide +kernel, rfl⟩
theorem dc_A_moveCounterAlone_11 : decode prog_2_method_18_code 11 = .ok (.dup, 1) ∧ 11 + 1 = 12 := ⟨by decide +kernel, rfl⟩
theorem dc_A_moveCounterAlone_12 : decode prog_2_method_18_code 12 = .ok (.getfield 74, 3) ∧ 12 + 3 = 15 := ⟨by decide +kernel, rfl⟩
theorem dc_A_moveCounterAlone_15 : decode prog_2_method_18_code 15 = .ok (.iload_n 1, 1) ∧ 15 + 1 = 16 := ⟨by decide +kernel, rfl⟩
theorem dc_A_moveCounterAlone_16 : decode prog_2_method_18_code 16 = .ok (.iadd, 1) ∧ 16 + 1 = 17 := ⟨by decide +kernel, rfl⟩
theorem dc_A_moveCounterAlone_17 : decode prog_2_method_18_code 17 = .ok (.putfield 74, 3) ∧ 17 + 3 = 20 := ⟨by decide +kernel, rfl⟩
theorem dc_A_moveCounterAlone_20 : decode prog_2_method_18_code 20 = .ok (.return_, 1) := by decide +kernel
theorem dc_F_check_0 : decode prog_1_method_13_code 0 = .ok (.aload_n 0, 1) ∧ 0 + 1 = 1 := ⟨by decide +kernel, rfl⟩
theorem dc_F_check_1 : decode prog_1_method_13_code 1 = .ok (.iload_n 1, 1) ∧ 1 + 1 = 2 := ⟨by decide +kernel, rfl⟩
theorem dc_F_check_2 : decode prog_1_method_13_code 2 = .ok (.invokevirtual 126, 3) ∧ 2 + 3 = 5 := ⟨by decide +kernel, rfl⟩
theorem dc_F_check_5 : decode prog_1_method_13_code 5 = .ok (.istore_n 2, 1) ∧ 5 + 1 = 6 := ⟨by decide +kernel, rfl⟩
theorem dc_F_check_6 : decode prog_1_method_13_code 6 = .ok (.iload_n 2, 1) ∧ 6 + 1 = 7 := ⟨by decide +kernel, rfl⟩
theorem dc_F_check_7 : decode prog_1_method_13_code 7 = .ok (.ifCond .eq 5, 3) ∧ ((7 : Nat) : Int) + (5) = ((12 : Nat) : Int) ∧ 7 + 3 = 10 := ⟨by decide +kernel, by decide, rfl⟩
theorem dc_F_check_10 : decode prog_1_method_13_code 10 = .ok (.iload_n 2, 1) ∧ 10 + 1 = 11 := ⟨by decide +kernel, rfl⟩
theorem dc_F_check_11 : decode prog_1_method_13_code 11 = .ok (.ireturn, 1) := by decide +kernel
theorem dc_F_check_12 : decode prog_1_method_13_code 12 = .ok (.aload_n 0, 1) ∧ 12 + 1 = 13 := ⟨by decide +kernel, rfl⟩
theorem dc_F_check_13 : decode prog_1_method_13_code 13 = .ok (.invokevirtual 94, 3) ∧ 13 + 3 = 16 := ⟨by decide +kernel, rfl⟩
theorem dc_F_check_16 : decode prog_1_method_13_code 16 = .ok (.aload_n 0, 1) ∧ 16 + 1 = 17 := ⟨by decide +kernel, rfl⟩
theorem dc_F_check_17 : decode prog_1_method_13_code 17 = .ok (.getfield 10, 3) ∧ 17 + 3 = 20 := ⟨by decide +kernel, rfl⟩
theorem dc_F_check_20 : decode prog_1_method_13_code 20 = .ok (.getfield 132, 3) ∧ 20 + 3 = 23 := ⟨by decide +kernel, rfl⟩
theorem dc_F_check_23 : decode prog_1_method_13_code 23 = .ok (.aload_n 0, 1) ∧ 23 + 1 = 24 := ⟨by decide +kernel, rfl⟩
theorem dc_F_check_24 : decode prog_1_method_13_code 24 = .ok (.getfield 10, 3) ∧ 24 + 3 = 27 := ⟨by decide +kernel, rfl⟩
theorem dc_F_check_27 : decode prog_1_method_13_code 27 = .ok (.iload_n 1, 1) ∧ 27 + 1 = 28 := ⟨by decide +kernel, rfl⟩
theorem dc_F_check_28 : decode prog_1_method_13_code 28 = .ok (.invokevirtual 129, 3) ∧ 28 + 3 = 31 := ⟨by decide +kernel, rfl⟩
theorem dc_F_check_31 : decode prog_1_method_13_code 31 = .ok (.isub, 1) ∧ 31 + 1 = 32 := ⟨by decide +kernel, rfl⟩
theorem dc_F_check_32 : decode prog_1_method_13_code 32 = .ok (.ireturn, 1) := by decide +kernel
theorem dc_F_correct_0 : decode prog_1_method_14_code 0 = .ok (.iload_n 1, 1) ∧ 0 + 1 = 1 := ⟨by decide +kernel, rfl⟩
theorem dc_F_correct_1 : decode prog_1_method_14_code 1 = .ok (.sipush (-9999), 3) ∧ 1 + 3 = 4 := ⟨by decide +kernel, rfl⟩
theorem dc_F_correct_4 : decode prog_1_method_14_code 4 = .ok (.if_icmp .lt 10, 3) ∧ ((4 : Nat) : Int) + (10) = ((14 : Nat) : Int) ∧ 4 + 3 = 7 := ⟨by decide +kernel, by decide, rfl⟩
theorem dc_F_correct_7 : decode prog_1_method_14_code 7 = .ok (.iload_n 1, 1) ∧ 7 + 1 = 8 := ⟨by decide +kernel, rfl⟩
theorem dc_F_correct_8 : decode prog_1_method_14_code 8 = .ok (.sipush 9999, 3) ∧ 8 + 3 = 11 := ⟨by decide +kernel, rfl⟩
theorem dc_F_correct_11 : decode prog_1_method_14_code 11 = .ok (.if_icmp .le 6, 3) ∧ ((11 : Nat) : Int) + (6) = ((17 : Nat) : Int) ∧ 11 + 3 = 14 := ⟨by decide +kernel, by decide, rfl⟩
theorem dc_F_correct_14 : decode prog_1_method_14_code 14 = .ok (.ldc 45, 2) ∧ 14 + 2 = 16 := ⟨by decide +kernel, rfl⟩
theorem dc_F_correct_16 : decode prog_1_method_14_code 16 = .ok (.ireturn, 1) := by decide +kernel
theorem dc_F_correct_17 : decode prog_1_method_14_code 17 = .ok (.aload_n 0, 1) ∧ 17 + 1 = 18 := ⟨by decide +kernel, rfl⟩
theorem dc_F_correct_18 : decode prog_1_method_14_code 18 = .ok (.getfield 10, 3) ∧ 18 + 3 = 21 := ⟨by decide +kernel, rfl⟩
theorem dc_F_correct_21 : decode prog_1_method_14_code 21 = .ok (.getfield 132, 3) ∧ 21 + 3 = 24 := ⟨by decide +kernel, rfl⟩
theorem dc_F_correct_24 : decode prog_1_method_14_code 24 = .ok (.iload_n 1, 1) ∧ 24 + 1 = 25 := ⟨by decide +kernel, rfl⟩
theorem dc_F_correct_25 : decode prog_1_method_14_code 25 = .ok (.isub, 1) ∧ 25 + 1 = 26 := ⟨by decide +kernel, rfl⟩
theorem dc_F_correct_26 : decode prog_1_method_14_code 26 = .ok (.istore_n 2, 1) ∧ 26 + 1 = 27 := ⟨by decide +kernel, rfl⟩
theorem dc_F_correct_27 : decode prog_1_method_14_code 27 = .ok (.iload_n 2, 1) ∧ 27 + 1 = 28 := ⟨by decide +kernel, rfl⟩
theorem dc_F_correct_28 : decode prog_1_method_14_code 28 = .ok (.ldc 139, 2) ∧ 28 + 2 = 30 := ⟨by decide +kernel, rfl⟩
theorem dc_F_correct_30 : decode prog_1_method_14_code 30 = .ok (.if_icmp .lt 9, 3) ∧ ((30 : Nat) : Int) + (9) = ((39 : Nat) : Int) ∧ 30 + 3 = 33 := ⟨by decide +kernel, by decide, rfl⟩
theorem dc_F_correct_33 : decode prog_1_method_14_code 33 = .ok (.iload_n 2, 1) ∧ 33 + 1 = 34 := ⟨by decide +kernel, rfl⟩
theorem dc_F_correct_34 : decode prog_1_method_14_code 34 = .ok (.ldc 140, 2) ∧ 34 + 2 = 36 := ⟨by decide +kernel, rfl⟩
theorem dc_F_correct_36 : decode prog_1_method_14_code 36 = .ok (.if_icmp .le 6, 3) ∧ ((36 : Nat) : Int) + (6) = ((42 : Nat) : Int) ∧ 36 + 3 = 39 := ⟨by decide +kernel, by decide, rfl⟩
theorem dc_F_correct_39 : decode prog_1_method_14_code 39 = .ok (.ldc 100, 2) ∧ 39 + 2 = 41 := ⟨by decide +kernel, rfl⟩
theorem dc_F_correct_41 : decode prog_1_method_14_code 41 = .ok (.ireturn, 1) := by decide +kernel
theorem dc_F_correct_42 : decode prog_1_method_14_code 42 = .ok (.aload_n 0, 1) ∧ 42 + 1 = 43 := ⟨by decide +kernel, rfl⟩
theorem dc_F_correct_43 : decode prog_1_method_14_code 43 = .ok (.getfield 30, 3) ∧ 43 + 3 = 46 := ⟨by decide +kernel, rfl⟩
theorem dc_F_correct_46 : decode prog_1_method_14_code 46 = .ok (.aload_n 0, 1) ∧ 46 + 1 = 47 := ⟨by decide +kernel, rfl⟩
theorem dc_F_correct_47 : decode prog_1_method_14_code 47 = .ok (.getfield 10, 3) ∧ 47 + 3 = 50 := ⟨by decide +kernel, rfl⟩
theorem dc_F_correct_50 : decode prog_1_method_14_code 50 = .ok (.invokevirtual 50, 3) ∧ 50 + 3 = 53 := ⟨by decide +kernel, rfl⟩
theorem dc_F_correct_53 : decode prog_1_method_14_code 53 = .ok (.aload_n 0, 1) ∧ 53 + 1 = 54 := ⟨by decide +kernel, rfl⟩
theorem dc_F_correct_54 : decode prog_1_method_14_code 54 = .ok (.getfield 10, 3) ∧ 54 + 3 = 57 := ⟨by decide +kernel, rfl⟩
theorem dc_F_correct_57 : decode prog_1_method_14_code 57 = .ok (.iload_n 1, 1) ∧ 57 + 1 = 58 := ⟨by decide +kernel, rfl⟩
theorem dc_F_correct_58 : decode prog_1_method_14_code 58 = .ok (.ineg, 1) ∧ 58 + 1 = 59 := ⟨by decide +kernel, rfl⟩
theorem dc_F_correct_59 : decode prog_1_method_14_code 59 = .ok (.invokevirtual 135, 3) ∧ 59 + 3 = 62 := ⟨by decide +kernel, rfl⟩
theorem dc_F_correct_62 : decode prog_1_method_14_code 62 = .ok (.aload_n 0, 1) ∧ 62 + 1 = 63 := ⟨by decide +kernel, rfl⟩
theorem dc_F_correct_63 : decode prog_1_method_14_code 63 = .ok (.getfield 10, 3) ∧ 63 + 3 = 66 := ⟨by decide +kernel, rfl⟩
theorem dc_F_correct_66 : decode prog_1_method_14_code 66 = .ok (.getfield 132, 3) ∧ 66 + 3 = 69 := ⟨by decide +kernel, rfl⟩
theorem dc_F_correct_69 : decode prog_1_method_14_code 69 = .ok (.ireturn, 1) := by decide +kernel
theorem dc_F_keep_0 : decode prog_1_method_15_code 0 = .ok (.aload_n 0, 1) ∧ 0 + 1 = 1 := ⟨by decide +kernel, rfl⟩
theorem dc_F_keep_1 : decode prog_1_method_15_code 1 = .ok (.iload_n 1, 1) ∧ 1 + 1 = 2 := ⟨by decide +kernel, rfl⟩
theorem dc_F_keep_2 : decode prog_1_method_15_code 2 = .ok (.invokevirtual 141, 3) ∧ 2 + 3 = 5 := ⟨by decide +kernel, rfl⟩
theorem dc_F_keep_5 : decode prog_1_method_15_code 5 = .ok (.astore_n 2, 1) ∧ 5 + 1 = 6 := ⟨by decide +kernel, rfl⟩
theorem dc_F_keep_6 : decode prog_1_method_15_code 6 = .ok (.aload_n 2, 1) ∧ 6 + 1 = 7 := ⟨by decide +kernel, rfl⟩
theorem dc_F_keep_7 : decode prog_1_method_15_code 7 = .ok (.ifnonnull 6, 3) ∧ ((7 : Nat) : Int) + (6) = ((13 : Nat) : Int) ∧ 7 + 3 = 10 := ⟨by decide +kernel, by decide, rfl⟩
theorem dc_F_keep_10 : decode prog_1_method_15_code 10 = .ok (.ldc 45, 2) ∧ 10 + 2 = 12 := ⟨by decide +kernel, rfl⟩
theorem dc_F_keep_12 : decode prog_1_method_15_code 12 = .ok (.ireturn, 1) := by decide +kernel
theorem dc_F_keep_13 : decode prog_1_method_15_code 13 = .ok (.aload_n 2, 1) ∧ 13 + 1 = 14 := ⟨by decide +kernel, rfl⟩
theorem dc_F_keep_14 : decode prog_1_method_15_code 14 = .ok (.aload_n 0, 1) ∧ 14 + 1 = 15 := ⟨by decide +kernel, rfl⟩
theorem dc_F_keep_15 : decode prog_1_method_15_code 15 = .ok (.getfield 10, 3) ∧ 15 + 3 = 18 := ⟨by decide +kernel, rfl⟩
theorem dc_F_keep_18 : decode prog_1_method_15_code 18 = .ok (.invokevirtual 87, 3) ∧ 18 + 3 = 21 := ⟨by decide +kernel, rfl⟩
theorem dc_F_keep_21 : decode prog_1_method_15_code 21 = .ok (.aload_n 0, 1) ∧ 21 + 1 = 22 := ⟨by decide +kernel, rfl⟩
theorem dc_F_keep_22 : decode prog_1_method_15_code 22 = .ok (.dup, 1) ∧ 22 + 1 = 23 := ⟨by decide +kernel, rfl⟩
theorem dc_F_keep_23 : decode prog_1_method_15_code 23 = .ok (.getfield 23, 3) ∧ 23 + 3 = 26 := ⟨by decide +kernel, rfl⟩
theorem dc_F_keep_26 : decode prog_1_method_15_code 26 = .ok (.iconst 1, 1) ∧ 26 + 1 = 27 := ⟨by decide +kernel, rfl⟩
theorem dc_F_keep_27 : decode prog_1_method_15_code 27 = .ok (.iload_n 1, 1) ∧ 27 + 1 = 28 := ⟨by decide +kernel, rfl⟩
theorem dc_F_keep_28 : decode prog_1_method_15_code 28 = .ok (.ishl, 1) ∧ 28 + 1 = 29 := ⟨by decide +kernel, rfl⟩
theorem dc_F_keep_29 : decode prog_1_method_15_code 29 = .ok (.ior, 1) ∧ 29 + 1 = 30 := ⟨by decide +kernel, rfl⟩
theorem dc_F_keep_30 : decode prog_1_method_15_code 30 = .ok (.putfield 23, 3) ∧ 30 + 3 = 33 := ⟨by decide +kernel, rfl⟩
theorem dc_F_keep_33 : decode prog_1_method_15_code 33 = .ok (.aload_n 0, 1) ∧ 33 + 1 = 34 := ⟨by decide +kernel, rfl⟩
theorem dc_F_keep_34 : decode prog_1_method_15_code 34 = .ok (.getfield 10, 3) ∧ 34 + 3 = 37 := ⟨by decide +kernel, rfl⟩
theorem dc_F_keep_37 : decode prog_1_method_15_code 37 = .ok (.getfield 132, 3) ∧ 37 + 3 = 40 := ⟨by decide +kernel, rfl⟩
theorem dc_F_keep_40 : decode prog_1_method_15_code 40 = .ok (.ireturn, 1) := by decide +kernel
theorem dc_F_imageNumbered_0 : decode prog_1_method_32_code 0 = .ok (.iload_n 1, 1) ∧ 0 + 1 = 1 := ⟨by decide +kernel, rfl⟩
theorem dc_F_imageNumbered_1 : decode prog_1_method_32_code 1 = .ok (.ifCond .lt 21, 3) ∧ ((1 : Nat) : Int) + (21) = ((22 : Nat) : Int) ∧ 1 + 3 = 4 := ⟨by decide +kernel, by decide, rfl⟩
theorem dc_F_imageNumbered_4 : decode prog_1_method_32_code 4 = .ok (.iload_n 1, 1) ∧ 4 + 1 = 5 := ⟨by decide +kernel, rfl⟩
theorem dc_F_imageNumbered_5 : decode prog_1_method_32_code 5 = .ok (.aload_n 0, 1) ∧ 5 + 1 = 6 := ⟨by decide +kernel, rfl⟩
theorem dc_F_imageNumbered_6 : decode prog_1_method_32_code 6 = .ok (.getfield 19, 3) ∧ 6 + 3 = 9 := ⟨by decide +kernel, rfl⟩
theorem dc_F_imageNumbered_9 : decode prog_1_method_32_code 9 = .ok (.arraylength, 1) ∧ 9 + 1 = 10 := ⟨by decide +kernel, rfl⟩
theorem dc_F_imageNumbered_10 : decode prog_1_method_32_code 10 = .ok (.if_icmp .ge 12, 3) ∧ ((10 : Nat) : Int) + (12) = ((22 : Nat) : Int) ∧ 10 + 3 = 13 := ⟨by decide +kernel, by decide, rfl⟩
theorem dc_F_imageNumbered_13 : decode prog_1_method_32_code 13 = .ok (.aload_n 0, 1) ∧ 13 + 1 = 14 := ⟨by decide +kernel, rfl⟩
theorem dc_F_imageNumbered_14 : decode prog_1_method_32_code 14 = .ok (.getfield 19, 3) ∧ 14 + 3 = 17 := ⟨by decide +kernel, rfl⟩
theorem dc_F_imageNumbered_17 : decode prog_1_method_32_code 17 = .ok (.iload_n 1, 1) ∧ 17 + 1 = 18 := ⟨by decide +kernel, rfl⟩
theorem dc_F_imageNumbered_18 : decode prog_1_method_32_code 18 = .ok (.aaload, 1) ∧ 18 + 1 = 19 := ⟨by decide +kernel, rfl⟩
theorem dc_F_imageNumbered_19 : decode prog_1_method_32_code 19 = .ok (.goto 4, 3) ∧ ((19 : Nat) : Int) + (4) = ((23 : Nat) : Int) := ⟨by decide +kernel, by decide⟩
theorem dc_F_imageNumbered_22 : decode prog_1_method_32_code 22 = .ok (.aconst_null, 1) ∧ 22 + 1 = 23 := ⟨by decide +kernel, rfl⟩
theorem dc_F_imageNumbered_23 : decode prog_1_method_32_code 23 = .ok (.areturn, 1) := by decide +kernel
theorem dc_F_back_0 : decode prog_1_method_16_code 0 = .ok (.aload_n 0, 1) ∧ 0 + 1 = 1 := ⟨by decide +kernel, rfl⟩
theorem dc_F_back_1 : decode prog_1_method_16_code 1 = .ok (.iload_n 1, 1) ∧ 1 + 1 = 2 := ⟨by decide +kernel, rfl⟩
theorem dc_F_back_2 : decode prog_1_method_16_code 2 = .ok (.invokevirtual 141, 3) ∧ 2 + 3 = 5 := ⟨by decide +kernel, rfl⟩
theorem dc_F_back_5 : decode prog_1_method_16_code 5 = .ok (.astore_n 2, 1) ∧ 5 + 1 = 6 := ⟨by decide +kernel, rfl⟩
theorem dc_F_back_6 : decode prog_1_method_16_code 6 = .ok (.aload_n 2, 1) ∧ 6 + 1 = 7 := ⟨by decide +kernel, rfl⟩
theorem dc_F_back_7 : decode prog_1_method_16_code 7 = .ok (.ifnonnull 6, 3) ∧ ((7 : Nat) : Int) + (6) = ((13 : Nat) : Int) ∧ 7 + 3 = 10 := ⟨by decide +kernel, by decide, rfl⟩
theorem dc_F_back_10 : decode prog_1_method_16_code 10 = .ok (.ldc 45, 2) ∧ 10 + 2 = 12 := ⟨by decide +kernel, rfl⟩
theorem dc_F_back_12 : decode prog_1_method_16_code 12 = .ok (.ireturn, 1) := by decide +kernel
theorem dc_F_back_13 : decode prog_1_method_16_code 13 = .ok (.aload_n 0, 1) ∧ 13 + 1 = 14 := ⟨by decide +kernel, rfl⟩
theorem dc_F_back_14 : decode prog_1_method_16_code 14 = .ok (.getfield 23, 3) ∧ 14 + 3 = 17 := ⟨by decide +kernel, rfl⟩
theorem dc_F_back_17 : decode prog_1_method_16_code 17 = .ok (.iconst 1, 1) ∧ 17 + 1 = 18 := ⟨by decide +kernel, rfl⟩
theorem dc_F_back_18 : decode prog_1_method_16_code 18 = .ok (.iload_n 1, 1) ∧ 18 + 1 = 19 := ⟨by decide +kernel, rfl⟩
theorem dc_F_back_19 : decode prog_1_method_16_code 19 = .ok (.ishl, 1) ∧ 19 + 1 = 20 := ⟨by decide +kernel, rfl⟩
theorem dc_F_back_20 : decode prog_1_method_16_code 20 = .ok (.iand, 1) ∧ 20 + 1 = 21 := ⟨by decide +kernel, rfl⟩
theorem dc_F_back_21 : decode prog_1_method_16_code 21 = .ok (.ifCond .ne 6, 3) ∧ ((21 : Nat) : Int) + (6) = ((27 : Nat) : Int) ∧ 21 + 3 = 24 := ⟨by decide +kernel, by decide, rfl⟩
theorem dc_F_back_24 : decode prog_1_method_16_code 24 = .ok (.ldc 100, 2) ∧ 24 + 2 = 26 := ⟨by decide +kernel, rfl⟩
theorem dc_F_back_26 : decode prog_1_method_16_code 26 = .ok (.ireturn, 1) := by decide +kernel
theorem dc_F_back_27 : decode prog_1_method_16_code 27 = .ok (.aload_n 0, 1) ∧ 27 + 1 = 28 := ⟨by decide +kernel, rfl⟩
theorem dc_F_back_28 : decode prog_1_method_16_code 28 = .ok (.getfield 30, 3) ∧ 28 + 3 = 31 := ⟨by decide +kernel, rfl⟩
theorem dc_F_back_31 : decode prog_1_method_16_code 31 = .ok (.aload_n 0, 1) ∧ 31 + 1 = 32 := ⟨by decide +kernel, rfl⟩
theorem dc_F_back_32 : decode prog_1_method_16_code 32 = .ok (.getfield 10, 3) ∧ 32 + 3 = 35 := ⟨by decide +kernel, rfl⟩
theorem dc_F_back_35 : decode prog_1_method_16_code 35 = .ok (.invokevirtual 50, 3) ∧ 35 + 3 = 38 := ⟨by decide +kernel, rfl⟩
theorem dc_F_back_38 : decode prog_1_method_16_code 38 = .ok (.aload_n 0, 1) ∧ 38 + 1 = 39 := ⟨by decide +kernel, rfl⟩
theorem dc_F_back_39 : decode prog_1_method_16_code 39 = .ok (.getfield 10, 3) ∧ 39 + 3 = 42 := ⟨by decide +kernel, rfl⟩
theorem dc_F_back_42 : decode prog_1_method_16_code 42 = .ok (.aload_n 2, 1) ∧ 42 + 1 = 43 := ⟨by decide +kernel, rfl⟩
theorem dc_F_back_43 : decode prog_1_method_16_code 43 = .ok (.invokevirtual 87, 3) ∧ 43 + 3 = 46 := ⟨by decide +kernel, rfl⟩
theorem dc_F_back_46 : decode prog_1_method_16_code 46 = .ok (.aload_n 0, 1) ∧ 46 + 1 = 47 := ⟨by decide +kernel, rfl⟩
theorem dc_F_back_47 : decode prog_1_method_16_code 47 = .ok (.getfield 10, 3) ∧ 47 + 3 = 50 := ⟨by decide +kernel, rfl⟩
theorem dc_F_back_50 : decode prog_1_method_16_code 50 = .ok (.getfield 132, 3) ∧ 50 + 3 = 53 := ⟨by decide +kernel, rfl⟩
theorem dc_F_back_53 : decode prog_1_method_16_code 53 = .ok (.ireturn, 1) := by decide +kernel
theorem dc_F_undo_0 : decode prog_1_method_17_code 0 = .ok (.aload_n 0, 1) ∧ 0 + 1 = 1 := ⟨by decide +kernel, rfl⟩
theorem dc_F_undo_1 : decode prog_1_method_17_code 1 = .ok (.getfield 30, 3) ∧ 1 + 3 = 4 := ⟨by decide +kernel, rfl⟩
theorem dc_F_undo_4 : decode prog_1_method_17_code 4 = .ok (.aload_n 0, 1) ∧ 4 + 1 = 5 := ⟨by decide +kernel, rfl⟩
theorem dc_F_undo_5 : decode prog_1_method_17_code 5 = .ok (.getfield 10, 3) ∧ 5 + 3 = 8 := ⟨by decide +kernel, rfl⟩
theorem dc_F_undo_8 : decode prog_1_method_17_code 8 = .ok (.invokevirtual 145, 3) ∧ 8 + 3 = 11 := ⟨by decide +kernel, rfl⟩
theorem dc_F_undo_11 : decode prog_1_method_17_code 11 = .ok (.ifCond .ne 6, 3) ∧ ((11 : Nat) : Int) + (6) = ((17 : Nat) : Int) ∧ 11 + 3 = 14 := ⟨by decide +kernel, by decide, rfl⟩
theorem dc_F_undo_14 : decode prog_1_method_17_code 14 = .ok (.ldc 100, 2) ∧ 14 + 2 = 16 := ⟨by decide +kernel, rfl⟩
theorem dc_F_undo_16 : decode prog_1_method_17_code 16 = .ok (.ireturn, 1) := by decide +kernel
theorem dc_F_undo_17 : decode prog_1_method_17_code 17 = .ok (.aload_n 0, 1) ∧ 17 + 1 = 18 := ⟨by decide +kernel, rfl⟩
theorem dc_F_undo_18 : decode prog_1_method_17_code 18 = .ok (.getfield 30, 3) ∧ 18 + 3 = 21 := ⟨by decide +kernel, rfl⟩
theorem dc_F_undo_21 : decode prog_1_method_17_code 21 = .ok (.getfield 149, 3) ∧ 21 + 3 = 24 := ⟨by decide +kernel, rfl⟩
theorem dc_F_undo_24 : decode prog_1_method_17_code 24 = .ok (.ireturn, 1) := by decide +kernel
theorem dc_S_popInto_0 : decode prog_6_method_3_code 0 = .ok (.aload_n 0, 1) ∧ 0 + 1 = 1 := ⟨by decide +kernel, rfl⟩
theorem dc_S_popInto_1 : decode prog_6_method_3_code 1 = .ok (.getfield 16, 3) ∧ 1 + 3 = 4 := ⟨by decide +kernel, rfl⟩
theorem dc_S_popInto_4 : decode prog_6_method_3_code 4 = .ok (.bipush 6, 2) ∧ 4 + 2 = 6 := ⟨by decide +kernel, rfl⟩
theorem dc_S_popInto_6 : decode prog_6_method_3_code 6 = .ok (.iadd, 1) ∧ 6 + 1 = 7 := ⟨by decide +kernel, rfl⟩
theorem dc_S_popInto_7 : decode prog_6_method_3_code 7 = .ok (.iconst 1, 1) ∧ 7 + 1 = 8 := ⟨by decide +kernel, rfl⟩
theorem dc_S_popInto_8 : decode prog_6_method_3_code 8 = .ok (.isub, 1) ∧ 8 + 1 = 9 := ⟨by decide +kernel, rfl⟩
theorem dc_S_popInto_9 : decode prog_6_method_3_code 9 = .ok (.bipush 6, 2) ∧ 9 + 2 = 11 := ⟨by decide +kernel, rfl⟩
theorem dc_S_popInto_11 : decode prog_6_method_3_code 11 = .ok (.irem, 1) ∧ 11 + 1 = 12 := ⟨by decide +kernel, rfl⟩
theorem dc_S_popInto_12 : decode prog_6_method_3_code 12 = .ok (.istore_n 2, 1) ∧ 12 + 1 = 13 := ⟨by decide +kernel, rfl⟩
theorem dc_S_popInto_13 : decode prog_6_method_3_code 13 = .ok (.aload_n 0, 1) ∧ 13 + 1 = 14 := ⟨by decide +kernel, rfl⟩
theorem dc_S_popInto_14 : decode prog_6_method_3_code 14 = .ok (.iload_n 2, 1) ∧ 14 + 1 = 15 := ⟨by decide +kernel, rfl⟩
theorem dc_S_popInto_15 : decode prog_6_method_3_code 15 = .ok (.invokevirtual 23, 3) ∧ 15 + 3 = 18 := ⟨by decide +kernel, rfl⟩
theorem dc_S_popInto_18 : decode prog_6_method_3_code 18 = .ok (.astore_n 3, 1) ∧ 18 + 1 = 19 := ⟨by decide +kernel, rfl⟩
theorem dc_S_popInto_19 : decode prog_6_method_3_code 19 = .ok (.aload_n 0, 1) ∧ 19 + 1 = 20 := ⟨by decide +kernel, rfl⟩
theorem dc_S_popInto_20 : decode prog_6_method_3_code 20 = .ok (.getfield 20, 3) ∧ 20 + 3 = 23 := ⟨by decide +kernel, rfl⟩
theorem dc_S_popInto_23 : decode prog_6_method_3_code 23 = .ok (.ifCond .eq 7, 3) ∧ ((23 : Nat) : Int) + (7) = ((30 : Nat) : Int) ∧ 23 + 3 = 26 := ⟨by decide +kernel, by decide, rfl⟩
theorem dc_S_popInto_26 : decode prog_6_method_3_code 26 = .ok (.aload_n 3, 1) ∧ 26 + 1 = 27 := ⟨by decide +kernel, rfl⟩
theorem dc_S_popInto_27 : decode prog_6_method_3_code 27 = .ok (.ifnonnull 5, 3) ∧ ((27 : Nat) : Int) + (5) = ((32 : Nat) : Int) ∧ 27 + 3 = 30 := ⟨by decide +kernel, by decide, rfl⟩
theorem dc_S_popInto_30 : decode prog_6_method_3_code 30 = .ok (.iconst 0, 1) ∧ 30 + 1 = 31 := ⟨by decide +kernel, rfl⟩
theorem dc_S_popInto_31 : decode prog_6_method_3_code 31 = .ok (.ireturn, 1) := by decide +kernel
theorem dc_S_popInto_32 : decode prog_6_method_3_code 32 = .ok (.aload_n 1, 1) ∧ 32 + 1 = 33 := ⟨by decide +kernel, rfl⟩
theorem dc_S_popInto_33 : decode prog_6_method_3_code 33 = .ok (.aload_n 3, 1) ∧ 33 + 1 = 34 := ⟨by decide +kernel, rfl⟩
theorem dc_S_popInto_34 : decode prog_6_method_3_code 34 = .ok (.invokevirtual 27, 3) ∧ 34 + 3 = 37 := ⟨by decide +kernel, rfl⟩
theorem dc_S_popInto_37 : decode prog_6_method_3_code 37 = .ok (.aload_n 0, 1) ∧ 37 + 1 = 38 := ⟨by decide +kernel, rfl⟩
theorem dc_S_popInto_38 : decode prog_6_method_3_code 38 = .ok (.iload_n 2, 1) ∧ 38 + 1 = 39 := ⟨by decide +kernel, rfl⟩
theorem dc_S_popInto_39 : decode prog_6_method_3_code 39 = .ok (.putfield 16, 3) ∧ 39 + 3 = 42 := ⟨by decide +kernel, rfl⟩
theorem dc_S_popInto_42 : decode prog_6_method_3_code 42 = .ok (.aload_n 0, 1) ∧ 42 + 1 = 43 := ⟨by decide +kernel, rfl⟩
theorem dc_S_popInto_43 : decode prog_6_method_3_code 43 = .ok (.dup, 1) ∧ 43 + 1 = 44 := ⟨by decide +kernel, rfl⟩
theorem dc_S_popInto_44 : decode prog_6_method_3_code 44 = .ok (.getfield 20, 3) ∧ 44 + 3 = 47 := ⟨by decide +kernel, rfl⟩
theorem dc_S_popInto_47 : decode prog_6_method_3_code 47 = .ok (.iconst 1, 1) ∧ 47 + 1 = 48 := ⟨by decide +kernel, rfl⟩
theorem dc_S_popInto_48 : decode prog_6_method_3_code 48 = .ok (.isub, 1) ∧ 48 + 1 = 49 := ⟨by decide +kernel, rfl⟩
theorem dc_S_popInto_49 : decode prog_6_method_3_code 49 = .ok (.putfield 20, 3) ∧ 49 + 3 = 52 := ⟨by decide +kernel, rfl⟩
theorem dc_S_popInto_52 : decode prog_6_method_3_code 52 = .ok (.iconst 1, 1) ∧ 52 + 1 = 53 := ⟨by decide +kernel, rfl⟩
theorem dc_S_popInto_53 : decode prog_6_method_3_code 53 = .ok (.ireturn, 1) := by decide +kernel
theorem dc_F_count_0 : decode prog_1_method_18_code 0 = .ok (.iload_n 1, 1) ∧ 0 + 1 = 1 := ⟨by decide +kernel, rfl⟩
theorem dc_F_count_1 : decode prog_1_method_18_code 1 = .ok (.tableswitch 48 18 20 #[27, 35, 43], 27) ∧ ((1 : Nat) : Int) + (48) = ((49 : Nat) : Int) ∧ (20 : Int) + 1 - (18) = (([28, 36, 44] : List Nat).length : Int) ∧ (#[27, 35, 43] : Array Int).toList.map (fun o => ((1 : Nat) : Int) + o) = ([28, 36, 44] : List Nat).map (fun t : Nat => (t : Int)) := ⟨by decide +kernel, by decide, by decide, by decide⟩
theorem dc_F_count_28 : decode prog_1_method_18_code 28 = .ok (.aload_n 0, 1) ∧ 28 + 1 = 29 := ⟨by decide +kernel, rfl⟩
theorem dc_F_count_29 : decode prog_1_method_18_code 29 = .ok (.getfield 37, 3) ∧ 29 + 3 = 32 := ⟨by decide +kernel, rfl⟩
theorem dc_F_count_32 : decode prog_1_method_18_code 32 = .ok (.getfield 84, 3) ∧ 32 + 3 = 35 := ⟨by decide +kernel, rfl⟩
theorem dc_F_count_35 : decode prog_1_method_18_code 35 = .ok (.ireturn, 1) := by decide +kernel
theorem dc_F_count_36 : decode prog_1_method_18_code 36 = .ok (.aload_n 0, 1) ∧ 36 + 1 = 37 := ⟨by decide +kernel, rfl⟩
theorem dc_F_count_37 : decode prog_1_method_18_code 37 = .ok (.getfield 30, 3) ∧ 37 + 3 = 40 := ⟨by decide +kernel, rfl⟩
theorem dc_F_count_40 : decode prog_1_method_18_code 40 = .ok (.getfield 149, 3) ∧ 40 + 3 = 43 := ⟨by decide +kernel, rfl⟩
theorem dc_F_count_43 : decode prog_1_method_18_code 43 = .ok (.ireturn, 1) := by decide +kernel
theorem dc_F_count_44 : decode prog_1_method_18_code 44 = .ok (.aload_n 0, 1) ∧ 44 + 1 = 45 := ⟨by decide +kernel, rfl⟩
theorem dc_F_count_45 : decode prog_1_method_18_code 45 = .ok (.getfield 23, 3) ∧ 45 + 3 = 48 := ⟨by decide +kernel, rfl⟩
theorem dc_F_count_48 : decode prog_1_method_18_code 48 = .ok (.ireturn, 1) := by decide +kernel
theorem dc_F_count_49 : decode prog_1_method_18_code 49 = .ok (.iload_n 1, 1) ∧ 49 + 1 = 50 := ⟨by decide +kernel, rfl⟩
theorem dc_F_count_50 : decode prog_1_method_18_code 50 = .ok (.invokestatic 150, 3) ∧ 50 + 3 = 53 := ⟨by decide +kernel, rfl⟩
theorem dc_F_count_53 : decode prog_1_method_18_code 53 = .ok (.ifCond .eq 14, 3) ∧ ((53 : Nat) : Int) + (14) = ((67 : Nat) : Int) ∧ 53 + 3 = 56 := ⟨by decide +kernel, by decide, rfl⟩
theorem dc_F_count_56 : decode prog_1_method_18_code 56 = .ok (.aload_n 0, 1) ∧ 56 + 1 = 57 := ⟨by decide +kernel, rfl⟩
theorem dc_F_count_57 : decode prog_1_method_18_code 57 = .ok (.getfield 10, 3) ∧ 57 + 3 = 60 := ⟨by decide +kernel, rfl⟩
theorem dc_F_count_60 : decode prog_1_method_18_code 60 = .ok (.iload_n 1, 1) ∧ 60 + 1 = 61 := ⟨by decide +kernel, rfl⟩
theorem dc_F_count_61 : decode prog_1_method_18_code 61 = .ok (.invokevirtual 153, 3) ∧ 61 + 3 = 64 := ⟨by decide +kernel, rfl⟩
theorem dc_F_count_64 : decode prog_1_method_18_code 64 = .ok (.goto 5, 3) ∧ ((64 : Nat) : Int) + (5) = ((69 : Nat) : Int) := ⟨by decide +kernel, by decide⟩
theorem dc_F_count_67 : decode prog_1_method_18_code 67 = .ok (.ldc 45, 2) ∧ 67 + 2 = 69 := ⟨by decide +kernel, rfl⟩
theorem dc_F_count_69 : decode prog_1_method_18_code 69 = .ok (.ireturn, 1) := by decide +kernel
theorem dc_A_isReading_0 : decode prog_2_method_7_code 0 = .ok (.iload_n 0, 1) ∧ 0 + 1 = 1 := ⟨by decide +kernel, rfl⟩
theorem dc_A_isReading_1 : decode prog_2_method_7_code 1 = .ok (.ifCond .lt 13, 3) ∧ ((1 : Nat) : Int) + (13) = ((14 : Nat) : Int) ∧ 1 + 3 = 4 := ⟨by decide +kernel, by decide, rfl⟩
theorem dc_A_isReading_4 : decode prog_2_method_7_code 4 = .ok (.iload_n 0, 1) ∧ 4 + 1 = 5 := ⟨by decide +kernel, rfl⟩
theorem dc_A_isReading_5 : decode prog_2_method_7_code 5 = .ok (.bipush 17, 2) ∧ 5 + 2 = 7 := ⟨by decide +kernel, rfl⟩
theorem dc_A_isReading_7 : decode prog_2_method_7_code 7 = .ok (.if_icmp .gt 7, 3) ∧ ((7 : Nat) : Int) + (7) = ((14 : Nat) : Int) ∧ 7 + 3 = 10 := ⟨by decide +kernel, by decide, rfl⟩
theorem dc_A_isReading_10 : decode prog_2_method_7_code 10 = .ok (.iconst 1, 1) ∧ 10 + 1 = 11 := ⟨by decide +kernel, rfl⟩
theorem dc_A_isReading_11 : decode prog_2_method_7_code 11 = .ok (.goto 4, 3) ∧ ((11 : Nat) : Int) + (4) = ((15 : Nat) : Int) := ⟨by decide +kernel, by decide⟩
theorem dc_A_isReading_14 : decode prog_2_method_7_code 14 = .ok (.iconst 0, 1) ∧ 14 + 1 = 15 := ⟨by decide +kernel, rfl⟩
theorem dc_A_isReading_15 : decode prog_2_method_7_code 15 = .ok (.ireturn, 1) := by decide +kernel
theorem dc_A_reading_0 : decode prog_2_method_8_code 0 = .ok (.iload_n 1, 1) ∧ 0 + 1 = 1 := ⟨by decide +kernel, rfl⟩
theorem dc_A_reading_1 : decode prog_2_method_8_code 1 = .ok (.tableswitch 171 6 17 #[63, 68, 73, 78, 83, 88, 93, 103, 112, 147, 155, 163], 63) ∧ ((1 : Nat) : Int) + (171) = ((172 : Nat) : Int) ∧ (17 : Int) + 1 - (6) = (([64, 69, 74, 79, 84, 89, 94, 104, 113, 148, 156, 164] : List Nat).length : Int) ∧ (#[63, 68, 73, 78, 83, 88, 93, 103, 112, 147, 155, 163] : Array Int).toList.map (fun o => ((1 : Nat) : Int) + o) = ([64, 69, 74, 79, 84, 89, 94, 104, 113, 148, 156, 164] : List Nat).map (fun t : Nat => (t : Int)) := ⟨by decide +kernel, by decide, by decide, by decide⟩
theorem dc_A_reading_64 : decode prog_2_method_8_code 64 = .ok (.aload_n 0, 1) ∧ 64 + 1 = 65 := ⟨by decide +kernel, rfl⟩
theorem dc_A_reading_65 : decode prog_2_method_8_code 65 = .ok (.getfield 59, 3) ∧ 65 + 3 = 68 := ⟨by decide +kernel, rfl⟩
theorem dc_A_reading_68 : decode prog_2_method_8_code 68 = .ok (.ireturn, 1) := by decide +kernel
theorem dc_A_reading_69 : decode prog_2_method_8_code 69 = .ok (.aload_n 0, 1) ∧ 69 + 1 = 70 := ⟨by decide +kernel, rfl⟩
theorem dc_A_reading_70 : decode prog_2_method_8_code 70 = .ok (.getfield 62, 3) ∧ 70 + 3 = 73 := ⟨by decide +kernel, rfl⟩
theorem dc_A_reading_73 : decode prog_2_method_8_code 73 = .ok (.ireturn, 1) := by decide +kernel
theorem dc_A_reading_74 : decode prog_2_method_8_code 74 = .ok (.aload_n 0, 1) ∧ 74 + 1 = 75 := ⟨by decide +kernel, rfl⟩
theorem dc_A_reading_75 : decode prog_2_method_8_code 75 = .ok (.getfield 65, 3) ∧ 75 + 3 = 78 := ⟨by decide +kernel, rfl⟩
theorem dc_A_reading_78 : decode prog_2_method_8_code 78 = .ok (.ireturn, 1) := by decide +kernel
theorem dc_A_reading_79 : decode prog_2_method_8_code 79 = .ok (.aload_n 0, 1) ∧ 79 + 1 = 80 := ⟨by decide +kernel, rfl⟩
theorem dc_A_reading_80 : decode prog_2_method_8_code 80 = .ok (.getfield 68, 3) ∧ 80 + 3 = 83 := ⟨by decide +kernel, rfl⟩
theorem dc_A_reading_83 : decode prog_2_method_8_code 83 = .ok (.ireturn, 1) := by decide +kernel
theorem dc_A_reading_84 : decode prog_2_method_8_code 84 = .ok (.aload_n 0, 1) ∧ 84 + 1 = 85 := ⟨by decide +kernel, rfl⟩
theorem dc_A_reading_85 : decode prog_2_method_8_code 85 = .ok (.getfield 71, 3) ∧ 85 + 3 = 88 := ⟨by decide +kernel, rfl⟩
theorem dc_A_reading_88 : decode prog_2_method_8_code 88 = .ok (.ireturn, 1) := by decide +kernel
theorem dc_A_reading_89 : decode prog_2_method_8_code 89 = .ok (.aload_n 0, 1) ∧ 89 + 1 = 90 := ⟨by decide +kernel, rfl⟩
theorem dc_A_reading_90 : decode prog_2_method_8_code 90 = .ok (.getfield 74, 3) ∧ 90 + 3 = 93 := ⟨by decide +kernel, rfl⟩
theorem dc_A_reading_93 : decode prog_2_method_8_code 93 = .ok (.ireturn, 1) := by decide +kernel
theorem dc_A_reading_94 : decode prog_2_method_8_code 94 = .ok (.aload_n 0, 1) ∧ 94 + 1 = 95 := ⟨by decide +kernel, rfl⟩
theorem dc_A_reading_95 : decode prog_2_method_8_code 95 = .ok (.aload_n 0, 1) ∧ 95 + 1 = 96 := ⟨by decide +kernel, rfl⟩
theorem dc_A_reading_96 : decode prog_2_method_8_code 96 = .ok (.iconst 2, 1) ∧ 96 + 1 = 97 := ⟨by decide +kernel, rfl⟩
theorem dc_A_reading_97 : decode prog_2_method_8_code 97 = .ok (.invokevirtual 97, 3) ∧ 97 + 3 = 100 := ⟨by decide +kernel, rfl⟩
theorem dc_A_reading_100 : decode prog_2_method_8_code 100 = .ok (.invokevirtual 100, 3) ∧ 100 + 3 = 103 := ⟨by decide +kernel, rfl⟩
theorem dc_A_reading_103 : decode prog_2_method_8_code 103 = .ok (.ireturn, 1) := by decide +kernel
theorem dc_A_reading_104 : decode prog_2_method_8_code 104 = .ok (.aload_n 0, 1) ∧ 104 + 1 = 105 := ⟨by decide +kernel, rfl⟩
theorem dc_A_reading_105 : decode prog_2_method_8_code 105 = .ok (.aload_n 0, 1) ∧ 105 + 1 = 106 := ⟨by decide +kernel, rfl⟩
theorem dc_A_reading_106 : decode prog_2_method_8_code 106 = .ok (.getfield 65, 3) ∧ 106 + 3 = 109 := ⟨by decide +kernel, rfl⟩
theorem dc_A_reading_109 : decode prog_2_method_8_code 109 = .ok (.invokevirtual 103, 3) ∧ 109 + 3 = 112 := ⟨by decide +kernel, rfl⟩
theorem dc_A_reading_112 : decode prog_2_method_8_code 112 = .ok (.ireturn, 1) := by decide +kernel
theorem dc_A_reading_113 : decode prog_2_method_8_code 113 = .ok (.aload_n 0, 1) ∧ 113 + 1 = 114 := ⟨by decide +kernel, rfl⟩
theorem dc_A_reading_114 : decode prog_2_method_8_code 114 = .ok (.getfield 48, 3) ∧ 114 + 3 = 117 := ⟨by decide +kernel, rfl⟩
theorem dc_A_reading_117 : decode prog_2_method_8_code 117 = .ok (.ifCond .eq 29, 3) ∧ ((117 : Nat) : Int) + (29) = ((146 : Nat) : Int) ∧ 117 + 3 = 120 := ⟨by decide +kernel, by decide, rfl⟩
theorem dc_A_reading_120 : decode prog_2_method_8_code 120 = .ok (.aload_n 0, 1) ∧ 120 + 1 = 121 := ⟨by decide +kernel, rfl⟩
theorem dc_A_reading_121 : decode prog_2_method_8_code 121 = .ok (.getfield 65, 3) ∧ 121 + 3 = 124 := ⟨by decide +kernel, rfl⟩
theorem dc_A_reading_124 : decode prog_2_method_8_code 124 = .ok (.aload_n 0, 1) ∧ 124 + 1 = 125 := ⟨by decide +kernel, rfl⟩
theorem dc_A_reading_125 : decode prog_2_method_8_code 125 = .ok (.getfield 52, 3) ∧ 125 + 3 = 128 := ⟨by decide +kernel, rfl⟩
theorem dc_A_reading_128 : decode prog_2_method_8_code 128 = .ok (.if_icmp .lt 18, 3) ∧ ((128 : Nat) : Int) + (18) = ((146 : Nat) : Int) ∧ 128 + 3 = 131 := ⟨by decide +kernel, by decide, rfl⟩
theorem dc_A_reading_131 : decode prog_2_method_8_code 131 = .ok (.aload_n 0, 1) ∧ 131 + 1 = 132 := ⟨by decide +kernel, rfl⟩
theorem dc_A_reading_132 : decode prog_2_method_8_code 132 = .ok (.getfield 65, 3) ∧ 132 + 3 = 135 := ⟨by decide +kernel, rfl⟩
theorem dc_A_reading_135 : decode prog_2_method_8_code 135 = .ok (.aload_n 0, 1) ∧ 135 + 1 = 136 := ⟨by decide +kernel, rfl⟩
theorem dc_A_reading_136 : decode prog_2_method_8_code 136 = .ok (.getfield 56, 3) ∧ 136 + 3 = 139 := ⟨by decide +kernel, rfl⟩
theorem dc_A_reading_139 : decode prog_2_method_8_code 139 = .ok (.if_icmp .gt 7, 3) ∧ ((139 : Nat) : Int) + (7) = ((146 : Nat) : Int) ∧ 139 + 3 = 142 := ⟨by decide +kernel, by decide, rfl⟩
theorem dc_A_reading_142 : decode prog_2_method_8_code 142 = .ok (.iconst 1, 1) ∧ 142 + 1 = 143 := ⟨by decide +kernel, rfl⟩
theorem dc_A_reading_143 : decode prog_2_method_8_code 143 = .ok (.goto 4, 3) ∧ ((143 : Nat) : Int) + (4) = ((147 : Nat) : Int) := ⟨by decide +kernel, by decide⟩
theorem dc_A_reading_146 : decode prog_2_method_8_code 146 = .ok (.iconst 0, 1) ∧ 146 + 1 = 147 := ⟨by decide +kernel, rfl⟩
theorem dc_A_reading_147 : decode prog_2_method_8_code 147 = .ok (.ireturn, 1) := by decide +kernel
theorem dc_A_reading_148 : decode prog_2_method_8_code 148 = .ok (.aload_n 0, 1) ∧ 148 + 1 = 149 := ⟨by decide +kernel, rfl⟩
theorem dc_A_reading_149 : decode prog_2_method_8_code 149 = .ok (.getfield 21, 3) ∧ 149 + 3 = 152 := ⟨by decide +kernel, rfl⟩
theorem dc_A_reading_152 : decode prog_2_method_8_code 152 = .ok (.getfield 106, 3) ∧ 152 + 3 = 155 := ⟨by decide +kernel, rfl⟩
theorem dc_A_reading_155 : decode prog_2_method_8_code 155 = .ok (.ireturn, 1) := by decide +kernel
theorem dc_A_reading_156 : decode prog_2_method_8_code 156 = .ok (.aload_n 0, 1) ∧ 156 + 1 = 157 := ⟨by decide +kernel, rfl⟩
theorem dc_A_reading_157 : decode prog_2_method_8_code 157 = .ok (.getfield 25, 3) ∧ 157 + 3 = 160 := ⟨by decide +kernel, rfl⟩
theorem dc_A_reading_160 : decode prog_2_method_8_code 160 = .ok (.getfield 106, 3) ∧ 160 + 3 = 163 := ⟨by decide +kernel, rfl⟩
theorem dc_A_reading_163 : decode prog_2_method_8_code 163 = .ok (.ireturn, 1) := by decide +kernel
theorem dc_A_reading_164 : decode prog_2_method_8_code 164 = .ok (.aload_n 0, 1) ∧ 164 + 1 = 165 := ⟨by decide +kernel, rfl⟩
theorem dc_A_reading_165 : decode prog_2_method_8_code 165 = .ok (.getfield 31, 3) ∧ 165 + 3 = 168 := ⟨by decide +kernel, rfl⟩
theorem dc_A_reading_168 : decode prog_2_method_8_code 168 = .ok (.getfield 109, 3) ∧ 168 + 3 = 171 := ⟨by decide +kernel, rfl⟩
theorem dc_A_reading_171 : decode prog_2_method_8_code 171 = .ok (.ireturn, 1) := by decide +kernel
theorem dc_A_reading_172 : decode prog_2_method_8_code 172 = .ok (.aload_n 0, 1) ∧ 172 + 1 = 173 := ⟨by decide +kernel, rfl⟩
theorem dc_A_reading_173 : decode prog_2_method_8_code 173 = .ok (.iload_n 1, 1) ∧ 173 + 1 = 174 := ⟨by decide +kernel, rfl⟩
theorem dc_A_reading_174 : decode prog_2_method_8_code 174 = .ok (.invokevirtual 97, 3) ∧ 174 + 3 = 177 := ⟨by decide +kernel, rfl⟩
theorem dc_A_reading_177 : decode prog_2_method_8_code 177 = .ok (.ireturn, 1) := by decide +kernel
theorem dc_F_account_0 : decode prog_1_method_19_code 0 = .ok (.iload_n 1, 1) ∧ 0 + 1 = 1 := ⟨by decide +kernel, rfl⟩
theorem dc_F_account_1 : decode prog_1_method_19_code 1 = .ok (.ifCond .lt 9, 3) ∧ ((1 : Nat) : Int) + (9) = ((10 : Nat) : Int) ∧ 1 + 3 = 4 := ⟨by decide +kernel, by decide, rfl⟩
theorem dc_F_account_4 : decode prog_1_method_19_code 4 = .ok (.iload_n 1, 1) ∧ 4 + 1 = 5 := ⟨by decide +kernel, rfl⟩
theorem dc_F_account_5 : decode prog_1_method_19_code 5 = .ok (.bipush 6, 2) ∧ 5 + 2 = 7 := ⟨by decide +kernel, rfl⟩
theorem dc_F_account_7 : decode prog_1_method_19_code 7 = .ok (.if_icmp .lt 6, 3) ∧ ((7 : Nat) : Int) + (6) = ((13 : Nat) : Int) ∧ 7 + 3 = 10 := ⟨by decide +kernel, by decide, rfl⟩
theorem dc_F_account_10 : decode prog_1_method_19_code 10 = .ok (.ldc 45, 2) ∧ 10 + 2 = 12 := ⟨by decide +kernel, rfl⟩
theorem dc_F_account_12 : decode prog_1_method_19_code 12 = .ok (.ireturn, 1) := by decide +kernel
theorem dc_F_account_13 : decode prog_1_method_19_code 13 = .ok (.aload_n 0, 1) ∧ 13 + 1 = 14 := ⟨by decide +kernel, rfl⟩
theorem dc_F_account_14 : decode prog_1_method_19_code 14 = .ok (.getfield 10, 3) ∧ 14 + 3 = 17 := ⟨by decide +kernel, rfl⟩
theorem dc_F_account_17 : decode prog_1_method_19_code 17 = .ok (.getfield 156, 3) ∧ 17 + 3 = 20 := ⟨by decide +kernel, rfl⟩
theorem dc_F_account_20 : decode prog_1_method_19_code 20 = .ok (.iload_n 1, 1) ∧ 20 + 1 = 21 := ⟨by decide +kernel, rfl⟩
theorem dc_F_account_21 : decode prog_1_method_19_code 21 = .ok (.invokestatic 160, 3) ∧ 21 + 3 = 24 := ⟨by decide +kernel, rfl⟩
theorem dc_F_account_24 : decode prog_1_method_19_code 24 = .ok (.ireturn, 1) := by decide +kernel
theorem dc_F_loadAt_0 : decode prog_1_method_20_code 0 = .ok (.iload_n 1, 1) ∧ 0 + 1 = 1 := ⟨by decide +kernel, rfl⟩
theorem dc_F_loadAt_1 : decode prog_1_method_20_code 1 = .ok (.invokestatic 58, 3) ∧ 1 + 3 = 4 := ⟨by decide +kernel, rfl⟩
theorem dc_F_loadAt_4 : decode prog_1_method_20_code 4 = .ok (.ifCond .ne 6, 3) ∧ ((4 : Nat) : Int) + (6) = ((10 : Nat) : Int) ∧ 4 + 3 = 7 := ⟨by decide +kernel, by decide, rfl⟩
theorem dc_F_loadAt_7 : decode prog_1_method_20_code 7 = .ok (.ldc 45, 2) ∧ 7 + 2 = 9 := ⟨by decide +kernel, rfl⟩
theorem dc_F_loadAt_9 : decode prog_1_method_20_code 9 = .ok (.ireturn, 1) := by decide +kernel
theorem dc_F_loadAt_10 : decode prog_1_method_20_code 10 = .ok (.aload_n 0, 1) ∧ 10 + 1 = 11 := ⟨by decide +kernel, rfl⟩
theorem dc_F_loadAt_11 : decode prog_1_method_20_code 11 = .ok (.getfield 10, 3) ∧ 11 + 3 = 14 := ⟨by decide +kernel, rfl⟩
theorem dc_F_loadAt_14 : decode prog_1_method_20_code 14 = .ok (.iload_n 1, 1) ∧ 14 + 1 = 15 := ⟨by decide +kernel, rfl⟩
theorem dc_F_loadAt_15 : decode prog_1_method_20_code 15 = .ok (.invokevirtual 166, 3) ∧ 15 + 3 = 18 := ⟨by decide +kernel, rfl⟩
theorem dc_F_loadAt_18 : decode prog_1_method_20_code 18 = .ok (.ireturn, 1) := by decide +kernel
theorem dc_F_errorAt_0 : decode prog_1_method_21_code 0 = .ok (.iload_n 1, 1) ∧ 0 + 1 = 1 := ⟨by decide +kernel, rfl⟩
theorem dc_F_errorAt_1 : decode prog_1_method_21_code 1 = .ok (.invokestatic 58, 3) ∧ 1 + 3 = 4 := ⟨by decide +kernel, rfl⟩
theorem dc_F_errorAt_4 : decode prog_1_method_21_code 4 = .ok (.ifCond .ne 6, 3) ∧ ((4 : Nat) : Int) + (6) = ((10 : Nat) : Int) ∧ 4 + 3 = 7 := ⟨by decide +kernel, by decide, rfl⟩
theorem dc_F_errorAt_7 : decode prog_1_method_21_code 7 = .ok (.ldc 45, 2) ∧ 7 + 2 = 9 := ⟨by decide +kernel, rfl⟩
theorem dc_F_errorAt_9 : decode prog_1_method_21_code 9 = .ok (.ireturn, 1) := by decide +kernel
theorem dc_F_errorAt_10 : decode prog_1_method_21_code 10 = .ok (.aload_n 0, 1) ∧ 10 + 1 = 11 := ⟨by decide +kernel, rfl⟩
theorem dc_F_errorAt_11 : decode prog_1_method_21_code 11 = .ok (.getfield 10, 3) ∧ 11 + 3 = 14 := ⟨by decide +kernel, rfl⟩
theorem dc_F_errorAt_14 : decode prog_1_method_21_code 14 = .ok (.getfield 70, 3) ∧ 14 + 3 = 17 := ⟨by decide +kernel, rfl⟩
theorem dc_F_errorAt_17 : decode prog_1_method_21_code 17 = .ok (.iload_n 1, 1) ∧ 17 + 1 = 18 := ⟨by decide +kernel, rfl⟩
theorem dc_F_errorAt_18 : decode prog_1_method_21_code 18 = .ok (.invokevirtual 169, 3) ∧ 18 + 3 = 21 := ⟨by decide +kernel, rfl⟩
theorem dc_F_errorAt_21 : decode prog_1_method_21_code 21 = .ok (.ireturn, 1) := by decide +kernel
theorem dc_F_command_0 : decode prog_1_method_22_code 0 = .ok (.iload_n 1, 1) ∧ 0 + 1 = 1 := ⟨by decide +kernel, rfl⟩
theorem dc_F_command_1 : decode prog_1_method_22_code 1 = .ok (.ifCond .lt 12, 3) ∧ ((1 : Nat) : Int) + (12) = ((13 : Nat) : Int) ∧ 1 + 3 = 4 := ⟨by decide +kernel, by decide, rfl⟩
theorem dc_F_command_4 : decode prog_1_method_22_code 4 = .ok (.iload_n 2, 1) ∧ 4 + 1 = 5 := ⟨by decide +kernel, rfl⟩
theorem dc_F_command_5 : decode prog_1_method_22_code 5 = .ok (.ifCond .lt 8, 3) ∧ ((5 : Nat) : Int) + (8) = ((13 : Nat) : Int) ∧ 5 + 3 = 8 := ⟨by decide +kernel, by decide, rfl⟩
theorem dc_F_command_8 : decode prog_1_method_22_code 8 = .ok (.iload_n 2, 1) ∧ 8 + 1 = 9 := ⟨by decide +kernel, rfl⟩
theorem dc_F_command_9 : decode prog_1_method_22_code 9 = .ok (.iconst 1, 1) ∧ 9 + 1 = 10 := ⟨by decide +kernel, rfl⟩
theorem dc_F_command_10 : decode prog_1_method_22_code 10 = .ok (.if_icmp .le 6, 3) ∧ ((10 : Nat) : Int) + (6) = ((16 : Nat) : Int) ∧ 10 + 3 = 13 := ⟨by decide +kernel, by decide, rfl⟩
theorem dc_F_command_13 : decode prog_1_method_22_code 13 = .ok (.ldc 45, 2) ∧ 13 + 2 = 15 := ⟨by decide +kernel, rfl⟩
theorem dc_F_command_15 : decode prog_1_method_22_code 15 = .ok (.ireturn, 1) := by decide +kernel
theorem dc_F_command_16 : decode prog_1_method_22_code 16 = .ok (.iload_n 1, 1) ∧ 16 + 1 = 17 := ⟨by decide +kernel, rfl⟩
theorem dc_F_command_17 : decode prog_1_method_22_code 17 = .ok (.aload_n 0, 1) ∧ 17 + 1 = 18 := ⟨by decide +kernel, rfl⟩
theorem dc_F_command_18 : decode prog_1_method_22_code 18 = .ok (.getfield 10, 3) ∧ 18 + 3 = 21 := ⟨by decide +kernel, rfl⟩
theorem dc_F_command_21 : decode prog_1_method_22_code 21 = .ok (.getfield 107, 3) ∧ 21 + 3 = 24 := ⟨by decide +kernel, rfl⟩
theorem dc_F_command_24 : decode prog_1_method_22_code 24 = .ok (.getfield 120, 3) ∧ 24 + 3 = 27 := ⟨by decide +kernel, rfl⟩
theorem dc_F_command_27 : decode prog_1_method_22_code 27 = .ok (.if_icmp .lt 6, 3) ∧ ((27 : Nat) : Int) + (6) = ((33 : Nat) : Int) ∧ 27 + 3 = 30 := ⟨by decide +kernel, by decide, rfl⟩
theorem dc_F_command_30 : decode prog_1_method_22_code 30 = .ok (.ldc 174, 2) ∧ 30 + 2 = 32 := ⟨by decide +kernel, rfl⟩
theorem dc_F_command_32 : decode prog_1_method_22_code 32 = .ok (.ireturn, 1) := by decide +kernel
theorem dc_F_command_33 : decode prog_1_method_22_code 33 = .ok (.iload_n 2, 1) ∧ 33 + 1 = 34 := ⟨by decide +kernel, rfl⟩
theorem dc_F_command_34 : decode prog_1_method_22_code 34 = .ok (.ifCond .ne 17, 3) ∧ ((34 : Nat) : Int) + (17) = ((51 : Nat) : Int) ∧ 34 + 3 = 37 := ⟨by decide +kernel, by decide, rfl⟩
theorem dc_F_command_37 : decode prog_1_method_22_code 37 = .ok (.aload_n 0, 1) ∧ 37 + 1 = 38 := ⟨by decide +kernel, rfl⟩
theorem dc_F_command_38 : decode prog_1_method_22_code 38 = .ok (.getfield 10, 3) ∧ 38 + 3 = 41 := ⟨by decide +kernel, rfl⟩
theorem dc_F_command_41 : decode prog_1_method_22_code 41 = .ok (.getfield 107, 3) ∧ 41 + 3 = 44 := ⟨by decide +kernel, rfl⟩
theorem dc_F_command_44 : decode prog_1_method_22_code 44 = .ok (.iload_n 1, 1) ∧ 44 + 1 = 45 := ⟨by decide +kernel, rfl⟩
theorem dc_F_command_45 : decode prog_1_method_22_code 45 = .ok (.invokevirtual 175, 3) ∧ 45 + 3 = 48 := ⟨by decide +kernel, rfl⟩
theorem dc_F_command_48 : decode prog_1_method_22_code 48 = .ok (.goto 14, 3) ∧ ((48 : Nat) : Int) + (14) = ((62 : Nat) : Int) := ⟨by decide +kernel, by decide⟩
theorem dc_F_command_51 : decode prog_1_method_22_code 51 = .ok (.aload_n 0, 1) ∧ 51 + 1 = 52 := ⟨by decide +kernel, rfl⟩
theorem dc_F_command_52 : decode prog_1_method_22_code 52 = .ok (.getfield 10, 3) ∧ 52 + 3 = 55 := ⟨by decide +kernel, rfl⟩
theorem dc_F_command_55 : decode prog_1_method_22_code 55 = .ok (.getfield 107, 3) ∧ 55 + 3 = 58 := ⟨by decide +kernel, rfl⟩
theorem dc_F_command_58 : decode prog_1_method_22_code 58 = .ok (.iload_n 1, 1) ∧ 58 + 1 = 59 := ⟨by decide +kernel, rfl⟩
theorem dc_F_command_59 : decode prog_1_method_22_code 59 = .ok (.invokevirtual 178, 3) ∧ 59 + 3 = 62 := ⟨by decide +kernel, rfl⟩
theorem dc_F_command_62 : decode prog_1_method_22_code 62 = .ok (.ireturn, 1) := by decide +kernel
theorem dc_F_flag_0 : decode prog_1_method_23_code 0 = .ok (.iload_n 1, 1) ∧ 0 + 1 = 1 := ⟨by decide +kernel, rfl⟩
theorem dc_F_flag_1 : decode prog_1_method_23_code 1 = .ok (.ifCond .lt 8, 3) ∧ ((1 : Nat) : Int) + (8) = ((9 : Nat) : Int) ∧ 1 + 3 = 4 := ⟨by decide +kernel, by decide, rfl⟩
theorem dc_F_flag_4 : decode prog_1_method_23_code 4 = .ok (.iload_n 1, 1) ∧ 4 + 1 = 5 := ⟨by decide +kernel, rfl⟩
theorem dc_F_flag_5 : decode prog_1_method_23_code 5 = .ok (.iconst 1, 1) ∧ 5 + 1 = 6 := ⟨by decide +kernel, rfl⟩
theorem dc_F_flag_6 : decode prog_1_method_23_code 6 = .ok (.if_icmp .le 6, 3) ∧ ((6 : Nat) : Int) + (6) = ((12 : Nat) : Int) ∧ 6 + 3 = 9 := ⟨by decide +kernel, by decide, rfl⟩
theorem dc_F_flag_9 : decode prog_1_method_23_code 9 = .ok (.ldc 45, 2) ∧ 9 + 2 = 11 := ⟨by decide +kernel, rfl⟩
theorem dc_F_flag_11 : decode prog_1_method_23_code 11 = .ok (.ireturn, 1) := by decide +kernel
theorem dc_F_flag_12 : decode prog_1_method_23_code 12 = .ok (.aload_n 0, 1) ∧ 12 + 1 = 13 := ⟨by decide +kernel, rfl⟩
theorem dc_F_flag_13 : decode prog_1_method_23_code 13 = .ok (.getfield 10, 3) ∧ 13 + 3 = 16 := ⟨by decide +kernel, rfl⟩
theorem dc_F_flag_16 : decode prog_1_method_23_code 16 = .ok (.getfield 73, 3) ∧ 16 + 3 = 19 := ⟨by decide +kernel, rfl⟩
theorem dc_F_flag_19 : decode prog_1_method_23_code 19 = .ok (.ifCond .ne 6, 3) ∧ ((19 : Nat) : Int) + (6) = ((25 : Nat) : Int) ∧ 19 + 3 = 22 := ⟨by decide +kernel, by decide, rfl⟩
theorem dc_F_flag_22 : decode prog_1_method_23_code 22 = .ok (.ldc 174, 2) ∧ 22 + 2 = 24 := ⟨by decide +kernel, rfl⟩
theorem dc_F_flag_24 : decode prog_1_method_23_code 24 = .ok (.ireturn, 1) := by decide +kernel
theorem dc_F_flag_25 : decode prog_1_method_23_code 25 = .ok (.iload_n 1, 1) ∧ 25 + 1 = 26 := ⟨by decide +kernel, rfl⟩
theorem dc_F_flag_26 : decode prog_1_method_23_code 26 = .ok (.ifCond .ne 13, 3) ∧ ((26 : Nat) : Int) + (13) = ((39 : Nat) : Int) ∧ 26 + 3 = 29 := ⟨by decide +kernel, by decide, rfl⟩
theorem dc_F_flag_29 : decode prog_1_method_23_code 29 = .ok (.aload_n 0, 1) ∧ 29 + 1 = 30 := ⟨by decide +kernel, rfl⟩
theorem dc_F_flag_30 : decode prog_1_method_23_code 30 = .ok (.getfield 10, 3) ∧ 30 + 3 = 33 := ⟨by decide +kernel, rfl⟩
theorem dc_F_flag_33 : decode prog_1_method_23_code 33 = .ok (.getfield 181, 3) ∧ 33 + 3 = 36 := ⟨by decide +kernel, rfl⟩
theorem dc_F_flag_36 : decode prog_1_method_23_code 36 = .ok (.goto 10, 3) ∧ ((36 : Nat) : Int) + (10) = ((46 : Nat) : Int) := ⟨by decide +kernel, by decide⟩
theorem dc_F_flag_39 : decode prog_1_method_23_code 39 = .ok (.aload_n 0, 1) ∧ 39 + 1 = 40 := ⟨by decide +kernel, rfl⟩
theorem dc_F_flag_40 : decode prog_1_method_23_code 40 = .ok (.getfield 10, 3) ∧ 40 + 3 = 43 := ⟨by decide +kernel, rfl⟩
theorem dc_F_flag_43 : decode prog_1_method_23_code 43 = .ok (.getfield 184, 3) ∧ 43 + 3 = 46 := ⟨by decide +kernel, rfl⟩
theorem dc_F_flag_46 : decode prog_1_method_23_code 46 = .ok (.ireturn, 1) := by decide +kernel
theorem dc_F_why_0 : decode prog_1_method_24_code 0 = .ok (.iload_n 1, 1) ∧ 0 + 1 = 1 := ⟨by decide +kernel, rfl⟩
theorem dc_F_why_1 : decode prog_1_method_24_code 1 = .ok (.invokestatic 58, 3) ∧ 1 + 3 = 4 := ⟨by decide +kernel, rfl⟩
theorem dc_F_why_4 : decode prog_1_method_24_code 4 = .ok (.ifCond .ne 6, 3) ∧ ((4 : Nat) : Int) + (6) = ((10 : Nat) : Int) ∧ 4 + 3 = 7 := ⟨by decide +kernel, by decide, rfl⟩
theorem dc_F_why_7 : decode prog_1_method_24_code 7 = .ok (.ldc 45, 2) ∧ 7 + 2 = 9 := ⟨by decide +kernel, rfl⟩
theorem dc_F_why_9 : decode prog_1_method_24_code 9 = .ok (.ireturn, 1) := by decide +kernel
theorem dc_F_why_10 : decode prog_1_method_24_code 10 = .ok (.aload_n 0, 1) ∧ 10 + 1 = 11 := ⟨by decide +kernel, rfl⟩
theorem dc_F_why_11 : decode prog_1_method_24_code 11 = .ok (.getfield 10, 3) ∧ 11 + 3 = 14 := ⟨by decide +kernel, rfl⟩
theorem dc_F_why_14 : decode prog_1_method_24_code 14 = .ok (.iload_n 1, 1) ∧ 14 + 1 = 15 := ⟨by decide +kernel, rfl⟩
theorem dc_F_why_15 : decode prog_1_method_24_code 15 = .ok (.invokevirtual 97, 3) ∧ 15 + 3 = 18 := ⟨by decide +kernel, rfl⟩
theorem dc_F_why_18 : decode prog_1_method_24_code 18 = .ok (.ifCond .eq 5, 3) ∧ ((18 : Nat) : Int) + (5) = ((23 : Nat) : Int) ∧ 18 + 3 = 21 := ⟨by decide +kernel, by decide, rfl⟩
theorem dc_F_why_21 : decode prog_1_method_24_code 21 = .ok (.iconst 1, 1) ∧ 21 + 1 = 22 := ⟨by decide +kernel, rfl⟩
theorem dc_F_why_22 : decode prog_1_method_24_code 22 = .ok (.ireturn, 1) := by decide +kernel
theorem dc_F_why_23 : decode prog_1_method_24_code 23 = .ok (.aload_n 0, 1) ∧ 23 + 1 = 24 := ⟨by decide +kernel, rfl⟩
theorem dc_F_why_24 : decode prog_1_method_24_code 24 = .ok (.getfield 16, 3) ∧ 24 + 3 = 27 := ⟨by decide +kernel, rfl⟩
theorem dc_F_why_27 : decode prog_1_method_24_code 27 = .ok (.aload_n 0, 1) ∧ 27 + 1 = 28 := ⟨by decide +kernel, rfl⟩
theorem dc_F_why_28 : decode prog_1_method_24_code 28 = .ok (.getfield 10, 3) ∧ 28 + 3 = 31 := ⟨by decide +kernel, rfl⟩
theorem dc_F_why_31 : decode prog_1_method_24_code 31 = .ok (.invokevirtual 87, 3) ∧ 31 + 3 = 34 := ⟨by decide +kernel, rfl⟩
theorem dc_F_why_34 : decode prog_1_method_24_code 34 = .ok (.aload_n 0, 1) ∧ 34 + 1 = 35 := ⟨by decide +kernel, rfl⟩
theorem dc_F_why_35 : decode prog_1_method_24_code 35 = .ok (.getfield 16, 3) ∧ 35 + 3 = 38 := ⟨by decide +kernel, rfl⟩
theorem dc_F_why_38 : decode prog_1_method_24_code 38 = .ok (.iload_n 1, 1) ∧ 38 + 1 = 39 := ⟨by decide +kernel, rfl⟩
theorem dc_F_why_39 : decode prog_1_method_24_code 39 = .ok (.invokevirtual 104, 3) ∧ 39 + 3 = 42 := ⟨by decide +kernel, rfl⟩
theorem dc_F_why_42 : decode prog_1_method_24_code 42 = .ok (.pop, 1) ∧ 42 + 1 = 43 := ⟨by decide +kernel, rfl⟩
theorem dc_F_why_43 : decode prog_1_method_24_code 43 = .ok (.aload_n 0, 1) ∧ 43 + 1 = 44 := ⟨by decide +kernel, rfl⟩
theorem dc_F_why_44 : decode prog_1_method_24_code 44 = .ok (.getfield 16, 3) ∧ 44 + 3 = 47 := ⟨by decide +kernel, rfl⟩
theorem dc_F_why_47 : decode prog_1_method_24_code 47 = .ok (.aload_n 0, 1) ∧ 47 + 1 = 48 := ⟨by decide +kernel, rfl⟩
theorem dc_F_why_48 : decode prog_1_method_24_code 48 = .ok (.getfield 10, 3) ∧ 48 + 3 = 51 := ⟨by decide +kernel, rfl⟩
theorem dc_F_why_51 : decode prog_1_method_24_code 51 = .ok (.iload_n 1, 1) ∧ 51 + 1 = 52 := ⟨by decide +kernel, rfl⟩
theorem dc_F_why_52 : decode prog_1_method_24_code 52 = .ok (.invokevirtual 187, 3) ∧ 52 + 3 = 55 := ⟨by decide +kernel, rfl⟩
theorem dc_F_why_55 : decode prog_1_method_24_code 55 = .ok (.invokevirtual 190, 3) ∧ 55 + 3 = 58 := ⟨by decide +kernel, rfl⟩
theorem dc_F_why_58 : decode prog_1_method_24_code 58 = .ok (.ireturn, 1) := by decide +kernel
theorem dc_A_reasonNotAt_0 : decode prog_2_method_19_code 0 = .ok (.aload_n 0, 1) ∧ 0 + 1 = 1 := ⟨by decide +kernel, rfl⟩
theorem dc_A_reasonNotAt_1 : decode prog_2_method_19_code 1 = .ok (.getfield 59, 3) ∧ 1 + 3 = 4 := ⟨by decide +kernel, rfl⟩
theorem dc_A_reasonNotAt_4 : decode prog_2_method_19_code 4 = .ok (.iload_n 1, 1) ∧ 4 + 1 = 5 := ⟨by decide +kernel, rfl⟩
theorem dc_A_reasonNotAt_5 : decode prog_2_method_19_code 5 = .ok (.if_icmp .eq 5, 3) ∧ ((5 : Nat) : Int) + (5) = ((10 : Nat) : Int) ∧ 5 + 3 = 8 := ⟨by decide +kernel, by decide, rfl⟩
theorem dc_A_reasonNotAt_8 : decode prog_2_method_19_code 8 = .ok (.iconst 2, 1) ∧ 8 + 1 = 9 := ⟨by decide +kernel, rfl⟩
theorem dc_A_reasonNotAt_9 : decode prog_2_method_19_code 9 = .ok (.ireturn, 1) := by decide +kernel
theorem dc_A_reasonNotAt_10 : decode prog_2_method_19_code 10 = .ok (.aload_n 0, 1) ∧ 10 + 1 = 11 := ⟨by decide +kernel, rfl⟩
theorem dc_A_reasonNotAt_11 : decode prog_2_method_19_code 11 = .ok (.getfield 68, 3) ∧ 11 + 3 = 14 := ⟨by decide +kernel, rfl⟩
theorem dc_A_reasonNotAt_14 : decode prog_2_method_19_code 14 = .ok (.ifCond .eq 5, 3) ∧ ((14 : Nat) : Int) + (5) = ((19 : Nat) : Int) ∧ 14 + 3 = 17 := ⟨by decide +kernel, by decide, rfl⟩
theorem dc_A_reasonNotAt_17 : decode prog_2_method_19_code 17 = .ok (.iconst 3, 1) ∧ 17 + 1 = 18 := ⟨by decide +kernel, rfl⟩
theorem dc_A_reasonNotAt_18 : decode prog_2_method_19_code 18 = .ok (.ireturn, 1) := by decide +kernel
theorem dc_A_reasonNotAt_19 : decode prog_2_method_19_code 19 = .ok (.aload_n 0, 1) ∧ 19 + 1 = 20 := ⟨by decide +kernel, rfl⟩
theorem dc_A_reasonNotAt_20 : decode prog_2_method_19_code 20 = .ok (.getfield 62, 3) ∧ 20 + 3 = 23 := ⟨by decide +kernel, rfl⟩
theorem dc_A_reasonNotAt_23 : decode prog_2_method_19_code 23 = .ok (.iload_n 1, 1) ∧ 23 + 1 = 24 := ⟨by decide +kernel, rfl⟩
theorem dc_A_reasonNotAt_24 : decode prog_2_method_19_code 24 = .ok (.if_icmp .eq 16, 3) ∧ ((24 : Nat) : Int) + (16) = ((40 : Nat) : Int) ∧ 24 + 3 = 27 := ⟨by decide +kernel, by decide, rfl⟩
theorem dc_A_reasonNotAt_27 : decode prog_2_method_19_code 27 = .ok (.aload_n 0, 1) ∧ 27 + 1 = 28 := ⟨by decide +kernel, rfl⟩
theorem dc_A_reasonNotAt_28 : decode prog_2_method_19_code 28 = .ok (.getfield 71, 3) ∧ 28 + 3 = 31 := ⟨by decide +kernel, rfl⟩
theorem dc_A_reasonNotAt_31 : decode prog_2_method_19_code 31 = .ok (.ifCond .eq 7, 3) ∧ ((31 : Nat) : Int) + (7) = ((38 : Nat) : Int) ∧ 31 + 3 = 34 := ⟨by decide +kernel, by decide, rfl⟩
theorem dc_A_reasonNotAt_34 : decode prog_2_method_19_code 34 = .ok (.iconst 4, 1) ∧ 34 + 1 = 35 := ⟨by decide +kernel, rfl⟩
theorem dc_A_reasonNotAt_35 : decode prog_2_method_19_code 35 = .ok (.goto 4, 3) ∧ ((35 : Nat) : Int) + (4) = ((39 : Nat) : Int) := ⟨by decide +kernel, by decide⟩
theorem dc_A_reasonNotAt_38 : decode prog_2_method_19_code 38 = .ok (.iconst 5, 1) ∧ 38 + 1 = 39 := ⟨by decide +kernel, rfl⟩
theorem dc_A_reasonNotAt_39 : decode prog_2_method_19_code 39 = .ok (.ireturn, 1) := by decide +kernel
theorem dc_A_reasonNotAt_40 : decode prog_2_method_19_code 40 = .ok (.aload_n 0, 1) ∧ 40 + 1 = 41 := ⟨by decide +kernel, rfl⟩
theorem dc_A_reasonNotAt_41 : decode prog_2_method_19_code 41 = .ok (.getfield 65, 3) ∧ 41 + 3 = 44 := ⟨by decide +kernel, rfl⟩
theorem dc_A_reasonNotAt_44 : decode prog_2_method_19_code 44 = .ok (.iload_n 1, 1) ∧ 44 + 1 = 45 := ⟨by decide +kernel, rfl⟩
theorem dc_A_reasonNotAt_45 : decode prog_2_method_19_code 45 = .ok (.if_icmp .eq 8, 3) ∧ ((45 : Nat) : Int) + (8) = ((53 : Nat) : Int) ∧ 45 + 3 = 48 := ⟨by decide +kernel, by decide, rfl⟩
theorem dc_A_reasonNotAt_48 : decode prog_2_method_19_code 48 = .ok (.bipush 6, 2) ∧ 48 + 2 = 50 := ⟨by decide +kernel, rfl⟩
theorem dc_A_reasonNotAt_50 : decode prog_2_method_19_code 50 = .ok (.goto 4, 3) ∧ ((50 : Nat) : Int) + (4) = ((54 : Nat) : Int) := ⟨by decide +kernel, by decide⟩
theorem dc_A_reasonNotAt_53 : decode prog_2_method_19_code 53 = .ok (.iconst 0, 1) ∧ 53 + 1 = 54 := ⟨by decide +kernel, rfl⟩
theorem dc_A_reasonNotAt_54 : decode prog_2_method_19_code 54 = .ok (.ireturn, 1) := by decide +kernel
theorem dc_F_losses_0 : decode prog_1_method_25_code 0 = .ok (.iload_n 1, 1) ∧ 0 + 1 = 1 := ⟨by decide +kernel, rfl⟩
theorem dc_F_losses_1 : decode prog_1_method_25_code 1 = .ok (.invokestatic 58, 3) ∧ 1 + 3 = 4 := ⟨by decide +kernel, rfl⟩
theorem dc_F_losses_4 : decode prog_1_method_25_code 4 = .ok (.ifCond .eq 11, 3) ∧ ((4 : Nat) : Int) + (11) = ((15 : Nat) : Int) ∧ 4 + 3 = 7 := ⟨by decide +kernel, by decide, rfl⟩
theorem dc_F_losses_7 : decode prog_1_method_25_code 7 = .ok (.iconst 2, 1) ∧ 7 + 1 = 8 := ⟨by decide +kernel, rfl⟩
theorem dc_F_losses_8 : decode prog_1_method_25_code 8 = .ok (.iload_n 2, 1) ∧ 8 + 1 = 9 := ⟨by decide +kernel, rfl⟩
theorem dc_F_losses_9 : decode prog_1_method_25_code 9 = .ok (.invokestatic 41, 3) ∧ 9 + 3 = 12 := ⟨by decide +kernel, rfl⟩
theorem dc_F_losses_12 : decode prog_1_method_25_code 12 = .ok (.ifCond .ne 6, 3) ∧ ((12 : Nat) : Int) + (6) = ((18 : Nat) : Int) ∧ 12 + 3 = 15 := ⟨by decide +kernel, by decide, rfl⟩
theorem dc_F_losses_15 : decode prog_1_method_25_code 15 = .ok (.ldc 45, 2) ∧ 15 + 2 = 17 := ⟨by decide +kernel, rfl⟩
theorem dc_F_losses_17 : decode prog_1_method_25_code 17 = .ok (.ireturn, 1) := by decide +kernel
theorem dc_F_losses_18 : decode prog_1_method_25_code 18 = .ok (.aload_n 0, 1) ∧ 18 + 1 = 19 := ⟨by decide +kernel, rfl⟩
theorem dc_F_losses_19 : decode prog_1_method_25_code 19 = .ok (.getfield 10, 3) ∧ 19 + 3 = 22 := ⟨by decide +kernel, rfl⟩
theorem dc_F_losses_22 : decode prog_1_method_25_code 22 = .ok (.iload_n 1, 1) ∧ 22 + 1 = 23 := ⟨by decide +kernel, rfl⟩
theorem dc_F_losses_23 : decode prog_1_method_25_code 23 = .ok (.invokevirtual 97, 3) ∧ 23 + 3 = 26 := ⟨by decide +kernel, rfl⟩
theorem dc_F_losses_26 : decode prog_1_method_25_code 26 = .ok (.ifCond .eq 6, 3) ∧ ((26 : Nat) : Int) + (6) = ((32 : Nat) : Int) ∧ 26 + 3 = 29 := ⟨by decide +kernel, by decide, rfl⟩
theorem dc_F_losses_29 : decode prog_1_method_25_code 29 = .ok (.ldc 174, 2) ∧ 29 + 2 = 31 := ⟨by decide +kernel, rfl⟩
theorem dc_F_losses_31 : decode prog_1_method_25_code 31 = .ok (.ireturn, 1) := by decide +kernel
theorem dc_F_losses_32 : decode prog_1_method_25_code 32 = .ok (.aload_n 0, 1) ∧ 32 + 1 = 33 := ⟨by decide +kernel, rfl⟩
theorem dc_F_losses_33 : decode prog_1_method_25_code 33 = .ok (.getfield 16, 3) ∧ 33 + 3 = 36 := ⟨by decide +kernel, rfl⟩
theorem dc_F_losses_36 : decode prog_1_method_25_code 36 = .ok (.aload_n 0, 1) ∧ 36 + 1 = 37 := ⟨by decide +kernel, rfl⟩
theorem dc_F_losses_37 : decode prog_1_method_25_code 37 = .ok (.getfield 10, 3) ∧ 37 + 3 = 40 := ⟨by decide +kernel, rfl⟩
theorem dc_F_losses_40 : decode prog_1_method_25_code 40 = .ok (.invokevirtual 87, 3) ∧ 40 + 3 = 43 := ⟨by decide +kernel, rfl⟩
theorem dc_F_losses_43 : decode prog_1_method_25_code 43 = .ok (.aload_n 0, 1) ∧ 43 + 1 = 44 := ⟨by decide +kernel, rfl⟩
theorem dc_F_losses_44 : decode prog_1_method_25_code 44 = .ok (.getfield 16, 3) ∧ 44 + 3 = 47 := ⟨by decide +kernel, rfl⟩
theorem dc_F_losses_47 : decode prog_1_method_25_code 47 = .ok (.iconst 2, 1) ∧ 47 + 1 = 48 := ⟨by decide +kernel, rfl⟩
theorem dc_F_losses_48 : decode prog_1_method_25_code 48 = .ok (.iload_n 2, 1) ∧ 48 + 1 = 49 := ⟨by decide +kernel, rfl⟩
theorem dc_F_losses_49 : decode prog_1_method_25_code 49 = .ok (.invokevirtual 54, 3) ∧ 49 + 3 = 52 := ⟨by decide +kernel, rfl⟩
theorem dc_F_losses_52 : decode prog_1_method_25_code 52 = .ok (.aload_n 0, 1) ∧ 52 + 1 = 53 := ⟨by decide +kernel, rfl⟩
theorem dc_F_losses_53 : decode prog_1_method_25_code 53 = .ok (.getfield 16, 3) ∧ 53 + 3 = 56 := ⟨by decide +kernel, rfl⟩
theorem dc_F_losses_56 : decode prog_1_method_25_code 56 = .ok (.iload_n 1, 1) ∧ 56 + 1 = 57 := ⟨by decide +kernel, rfl⟩
theorem dc_F_losses_57 : decode prog_1_method_25_code 57 = .ok (.invokevirtual 104, 3) ∧ 57 + 3 = 60 := ⟨by decide +kernel, rfl⟩
theorem dc_F_losses_60 : decode prog_1_method_25_code 60 = .ok (.pop, 1) ∧ 60 + 1 = 61 := ⟨by decide +kernel, rfl⟩
theorem dc_F_losses_61 : decode prog_1_method_25_code 61 = .ok (.aload_n 0, 1) ∧ 61 + 1 = 62 := ⟨by decide +kernel, rfl⟩
theorem dc_F_losses_62 : decode prog_1_method_25_code 62 = .ok (.getfield 16, 3) ∧ 62 + 3 = 65 := ⟨by decide +kernel, rfl⟩
theorem dc_F_losses_65 : decode prog_1_method_25_code 65 = .ok (.getfield 101, 3) ∧ 65 + 3 = 68 := ⟨by decide +kernel, rfl⟩
theorem dc_F_losses_68 : decode prog_1_method_25_code 68 = .ok (.aload_n 0, 1) ∧ 68 + 1 = 69 := ⟨by decide +kernel, rfl⟩
theorem dc_F_losses_69 : decode prog_1_method_25_code 69 = .ok (.getfield 10, 3) ∧ 69 + 3 = 72 := ⟨by decide +kernel, rfl⟩
theorem dc_F_losses_72 : decode prog_1_method_25_code 72 = .ok (.getfield 101, 3) ∧ 72 + 3 = 75 := ⟨by decide +kernel, rfl⟩
theorem dc_F_losses_75 : decode prog_1_method_25_code 75 = .ok (.isub, 1) ∧ 75 + 1 = 76 := ⟨by decide +kernel, rfl⟩
theorem dc_F_losses_76 : decode prog_1_method_25_code 76 = .ok (.ireturn, 1) := by decide +kernel
theorem dc_F_fastest_0 : decode prog_1_method_26_code 0 = .ok (.iload_n 1, 1) ∧ 0 + 1 = 1 := ⟨by decide +kernel, rfl⟩
theorem dc_F_fastest_1 : decode prog_1_method_26_code 1 = .ok (.invokestatic 58, 3) ∧ 1 + 3 = 4 := ⟨by decide +kernel, rfl⟩
theorem dc_F_fastest_4 : decode prog_1_method_26_code 4 = .ok (.ifCond .ne 6, 3) ∧ ((4 : Nat) : Int) + (6) = ((10 : Nat) : Int) ∧ 4 + 3 = 7 := ⟨by decide +kernel, by decide, rfl⟩
theorem dc_F_fastest_7 : decode prog_1_method_26_code 7 = .ok (.ldc 45, 2) ∧ 7 + 2 = 9 := ⟨by decide +kernel, rfl⟩
theorem dc_F_fastest_9 : decode prog_1_method_26_code 9 = .ok (.ireturn, 1) := by decide +kernel
theorem dc_F_fastest_10 : decode prog_1_method_26_code 10 = .ok (.aload_n 0, 1) ∧ 10 + 1 = 11 := ⟨by decide +kernel, rfl⟩
theorem dc_F_fastest_11 : decode prog_1_method_26_code 11 = .ok (.getfield 10, 3) ∧ 11 + 3 = 14 := ⟨by decide +kernel, rfl⟩
theorem dc_F_fastest_14 : decode prog_1_method_26_code 14 = .ok (.iload_n 1, 1) ∧ 14 + 1 = 15 := ⟨by decide +kernel, rfl⟩
theorem dc_F_fastest_15 : decode prog_1_method_26_code 15 = .ok (.invokevirtual 97, 3) ∧ 15 + 3 = 18 := ⟨by decide +kernel, rfl⟩
theorem dc_F_fastest_18 : decode prog_1_method_26_code 18 = .ok (.ifCond .eq 6, 3) ∧ ((18 : Nat) : Int) + (6) = ((24 : Nat) : Int) ∧ 18 + 3 = 21 := ⟨by decide +kernel, by decide, rfl⟩
theorem dc_F_fastest_21 : decode prog_1_method_26_code 21 = .ok (.ldc 174, 2) ∧ 21 + 2 = 23 := ⟨by decide +kernel, rfl⟩
theorem dc_F_fastest_23 : decode prog_1_method_26_code 23 = .ok (.ireturn, 1) := by decide +kernel
theorem dc_F_fastest_24 : decode prog_1_method_26_code 24 = .ok (.aload_n 0, 1) ∧ 24 + 1 = 25 := ⟨by decide +kernel, rfl⟩
theorem dc_F_fastest_25 : decode prog_1_method_26_code 25 = .ok (.getfield 16, 3) ∧ 25 + 3 = 28 := ⟨by decide +kernel, rfl⟩
theorem dc_F_fastest_28 : decode prog_1_method_26_code 28 = .ok (.aload_n 0, 1) ∧ 28 + 1 = 29 := ⟨by decide +kernel, rfl⟩
theorem dc_F_fastest_29 : decode prog_1_method_26_code 29 = .ok (.getfield 10, 3) ∧ 29 + 3 = 32 := ⟨by decide +kernel, rfl⟩
theorem dc_F_fastest_32 : decode prog_1_method_26_code 32 = .ok (.invokevirtual 87, 3) ∧ 32 + 3 = 35 := ⟨by decide +kernel, rfl⟩
theorem dc_F_fastest_35 : decode prog_1_method_26_code 35 = .ok (.aload_n 0, 1) ∧ 35 + 1 = 36 := ⟨by decide +kernel, rfl⟩
theorem dc_F_fastest_36 : decode prog_1_method_26_code 36 = .ok (.getfield 16, 3) ∧ 36 + 3 = 39 := ⟨by decide +kernel, rfl⟩
theorem dc_F_fastest_39 : decode prog_1_method_26_code 39 = .ok (.iload_n 1, 1) ∧ 39 + 1 = 40 := ⟨by decide +kernel, rfl⟩
theorem dc_F_fastest_40 : decode prog_1_method_26_code 40 = .ok (.invokevirtual 193, 3) ∧ 40 + 3 = 43 := ⟨by decide +kernel, rfl⟩
theorem dc_F_fastest_43 : decode prog_1_method_26_code 43 = .ok (.istore_n 2, 1) ∧ 43 + 1 = 44 := ⟨by decide +kernel, rfl⟩
theorem dc_F_fastest_44 : decode prog_1_method_26_code 44 = .ok (.sipush 1000, 3) ∧ 44 + 3 = 47 := ⟨by decide +kernel, rfl⟩
theorem dc_F_fastest_47 : decode prog_1_method_26_code 47 = .ok (.istore_n 3, 1) ∧ 47 + 1 = 48 := ⟨by decide +kernel, rfl⟩
theorem dc_F_fastest_48 : decode prog_1_method_26_code 48 = .ok (.iload_n 3, 1) ∧ 48 + 1 = 49 := ⟨by decide +kernel, rfl⟩
theorem dc_F_fastest_49 : decode prog_1_method_26_code 49 = .ok (.ifCond .le 23, 3) ∧ ((49 : Nat) : Int) + (23) = ((72 : Nat) : Int) ∧ 49 + 3 = 52 := ⟨by decide +kernel, by decide, rfl⟩
theorem dc_F_fastest_52 : decode prog_1_method_26_code 52 = .ok (.aload_n 0, 1) ∧ 52 + 1 = 53 := ⟨by decide +kernel, rfl⟩
theorem dc_F_fastest_53 : decode prog_1_method_26_code 53 = .ok (.getfield 10, 3) ∧ 53 + 3 = 56 := ⟨by decide +kernel, rfl⟩
theorem dc_F_fastest_56 : decode prog_1_method_26_code 56 = .ok (.iload_n 3, 1) ∧ 56 + 1 = 57 := ⟨by decide +kernel, rfl⟩
theorem dc_F_fastest_57 : decode prog_1_method_26_code 57 = .ok (.invokevirtual 196, 3) ∧ 57 + 3 = 60 := ⟨by decide +kernel, rfl⟩
theorem dc_F_fastest_60 : decode prog_1_method_26_code 60 = .ok (.iload_n 2, 1) ∧ 60 + 1 = 61 := ⟨by decide +kernel, rfl⟩
theorem dc_F_fastest_61 : decode prog_1_method_26_code 61 = .ok (.if_icmp .lt 5, 3) ∧ ((61 : Nat) : Int) + (5) = ((66 : Nat) : Int) ∧ 61 + 3 = 64 := ⟨by decide +kernel, by decide, rfl⟩
theorem dc_F_fastest_64 : decode prog_1_method_26_code 64 = .ok (.iload_n 3, 1) ∧ 64 + 1 = 65 := ⟨by decide +kernel, rfl⟩
theorem dc_F_fastest_65 : decode prog_1_method_26_code 65 = .ok (.ireturn, 1) := by decide +kernel
theorem dc_F_fastest_66 : decode prog_1_method_26_code 66 = .ok (.iinc 3 (-50), 3) ∧ 66 + 3 = 69 := ⟨by decide +kernel, rfl⟩
theorem dc_F_fastest_69 : decode prog_1_method_26_code 69 = .ok (.goto (-21), 3) ∧ ((69 : Nat) : Int) + (-21) = ((48 : Nat) : Int) := ⟨by decide +kernel, by decide⟩
theorem dc_F_fastest_72 : decode prog_1_method_26_code 72 = .ok (.ldc 174, 2) ∧ 72 + 2 = 74 := ⟨by decide +kernel, rfl⟩
theorem dc_F_fastest_74 : decode prog_1_method_26_code 74 = .ok (.ireturn, 1) := by decide +kernel
theorem dc_A_travelUnstalled_0 : decode prog_2_method_14_code 0 = .ok (.aload_n 0, 1) ∧ 0 + 1 = 1 := ⟨by decide +kernel, rfl⟩
theorem dc_A_travelUnstalled_1 : decode prog_2_method_14_code 1 = .ok (.iconst 1, 1) ∧ 1 + 1 = 2 := ⟨by decide +kernel, rfl⟩
theorem dc_A_travelUnstalled_2 : decode prog_2_method_14_code 2 = .ok (.sipush 200, 3) ∧ 2 + 3 = 5 := ⟨by decide +kernel, rfl⟩
theorem dc_A_travelUnstalled_5 : decode prog_2_method_14_code 5 = .ok (.invokevirtual 151, 3) ∧ 5 + 3 = 8 := ⟨by decide +kernel, rfl⟩
theorem dc_A_travelUnstalled_8 : decode prog_2_method_14_code 8 = .ok (.aload_n 0, 1) ∧ 8 + 1 = 9 := ⟨by decide +kernel, rfl⟩
theorem dc_A_travelUnstalled_9 : decode prog_2_method_14_code 9 = .ok (.iconst 3, 1) ∧ 9 + 1 = 10 := ⟨by decide +kernel, rfl⟩
theorem dc_A_travelUnstalled_10 : decode prog_2_method_14_code 10 = .ok (.iconst 0, 1) ∧ 10 + 1 = 11 := ⟨by decide +kernel, rfl⟩
theorem dc_A_travelUnstalled_11 : decode prog_2_method_14_code 11 = .ok (.invokevirtual 151, 3) ∧ 11 + 3 = 14 := ⟨by decide +kernel, rfl⟩
theorem dc_A_travelUnstalled_14 : decode prog_2_method_14_code 14 = .ok (.aload_n 0, 1) ∧ 14 + 1 = 15 := ⟨by decide +kernel, rfl⟩
theorem dc_A_travelUnstalled_15 : decode prog_2_method_14_code 15 = .ok (.iload_n 1, 1) ∧ 15 + 1 = 16 := ⟨by decide +kernel, rfl⟩
theorem dc_A_travelUnstalled_16 : decode prog_2_method_14_code 16 = .ok (.invokevirtual 154, 3) ∧ 16 + 3 = 19 := ⟨by decide +kernel, rfl⟩
theorem dc_A_travelUnstalled_19 : decode prog_2_method_14_code 19 = .ok (.ireturn, 1) := by decide +kernel
theorem dc_F_counter_0 : decode prog_1_method_27_code 0 = .ok (.iload_n 1, 1) ∧ 0 + 1 = 1 := ⟨by decide +kernel, rfl⟩
theorem dc_F_counter_1 : decode prog_1_method_27_code 1 = .ok (.ifCond .lt 8, 3) ∧ ((1 : Nat) : Int) + (8) = ((9 : Nat) : Int) ∧ 1 + 3 = 4 := ⟨by decide +kernel, by decide, rfl⟩
theorem dc_F_counter_4 : decode prog_1_method_27_code 4 = .ok (.iload_n 1, 1) ∧ 4 + 1 = 5 := ⟨by decide +kernel, rfl⟩
theorem dc_F_counter_5 : decode prog_1_method_27_code 5 = .ok (.iconst 1, 1) ∧ 5 + 1 = 6 := ⟨by decide +kernel, rfl⟩
theorem dc_F_counter_6 : decode prog_1_method_27_code 6 = .ok (.if_icmp .le 6, 3) ∧ ((6 : Nat) : Int) + (6) = ((12 : Nat) : Int) ∧ 6 + 3 = 9 := ⟨by decide +kernel, by decide, rfl⟩
theorem dc_F_counter_9 : decode prog_1_method_27_code 9 = .ok (.ldc 45, 2) ∧ 9 + 2 = 11 := ⟨by decide +kernel, rfl⟩
theorem dc_F_counter_11 : decode prog_1_method_27_code 11 = .ok (.ireturn, 1) := by decide +kernel
theorem dc_F_counter_12 : decode prog_1_method_27_code 12 = .ok (.iload_n 1, 1) ∧ 12 + 1 = 13 := ⟨by decide +kernel, rfl⟩
theorem dc_F_counter_13 : decode prog_1_method_27_code 13 = .ok (.ifCond .ne 13, 3) ∧ ((13 : Nat) : Int) + (13) = ((26 : Nat) : Int) ∧ 13 + 3 = 16 := ⟨by decide +kernel, by decide, rfl⟩
theorem dc_F_counter_16 : decode prog_1_method_27_code 16 = .ok (.aload_n 0, 1) ∧ 16 + 1 = 17 := ⟨by decide +kernel, rfl⟩
theorem dc_F_counter_17 : decode prog_1_method_27_code 17 = .ok (.getfield 10, 3) ∧ 17 + 3 = 20 := ⟨by decide +kernel, rfl⟩
theorem dc_F_counter_20 : decode prog_1_method_27_code 20 = .ok (.getfield 132, 3) ∧ 20 + 3 = 23 := ⟨by decide +kernel, rfl⟩
theorem dc_F_counter_23 : decode prog_1_method_27_code 23 = .ok (.goto 34, 3) ∧ ((23 : Nat) : Int) + (34) = ((57 : Nat) : Int) := ⟨by decide +kernel, by decide⟩
theorem dc_F_counter_26 : decode prog_1_method_27_code 26 = .ok (.aload_n 0, 1) ∧ 26 + 1 = 27 := ⟨by decide +kernel, rfl⟩
theorem dc_F_counter_27 : decode prog_1_method_27_code 27 = .ok (.getfield 10, 3) ∧ 27 + 3 = 30 := ⟨by decide +kernel, rfl⟩
theorem dc_F_counter_30 : decode prog_1_method_27_code 30 = .ok (.getfield 199, 3) ∧ 30 + 3 = 33 := ⟨by decide +kernel, rfl⟩
theorem dc_F_counter_33 : decode prog_1_method_27_code 33 = .ok (.aload_n 0, 1) ∧ 33 + 1 = 34 := ⟨by decide +kernel, rfl⟩
theorem dc_F_counter_34 : decode prog_1_method_27_code 34 = .ok (.getfield 10, 3) ∧ 34 + 3 = 37 := ⟨by decide +kernel, rfl⟩
theorem dc_F_counter_37 : decode prog_1_method_27_code 37 = .ok (.getfield 202, 3) ∧ 37 + 3 = 40 := ⟨by decide +kernel, rfl⟩
theorem dc_F_counter_40 : decode prog_1_method_27_code 40 = .ok (.iadd, 1) ∧ 40 + 1 = 41 := ⟨by decide +kernel, rfl⟩
theorem dc_F_counter_41 : decode prog_1_method_27_code 41 = .ok (.aload_n 0, 1) ∧ 41 + 1 = 42 := ⟨by decide +kernel, rfl⟩
theorem dc_F_counter_42 : decode prog_1_method_27_code 42 = .ok (.getfield 10, 3) ∧ 42 + 3 = 45 := ⟨by decide +kernel, rfl⟩
theorem dc_F_counter_45 : decode prog_1_method_27_code 45 = .ok (.getfield 101, 3) ∧ 45 + 3 = 48 := ⟨by decide +kernel, rfl⟩
theorem dc_F_counter_48 : decode prog_1_method_27_code 48 = .ok (.iadd, 1) ∧ 48 + 1 = 49 := ⟨by decide +kernel, rfl⟩
theorem dc_F_counter_49 : decode prog_1_method_27_code 49 = .ok (.aload_n 0, 1) ∧ 49 + 1 = 50 := ⟨by decide +kernel, rfl⟩
theorem dc_F_counter_50 : decode prog_1_method_27_code 50 = .ok (.getfield 10, 3) ∧ 50 + 3 = 53 := ⟨by decide +kernel, rfl⟩
theorem dc_F_counter_53 : decode prog_1_method_27_code 53 = .ok (.getfield 205, 3) ∧ 53 + 3 = 56 := ⟨by decide +kernel, rfl⟩
theorem dc_F_counter_56 : decode prog_1_method_27_code 56 = .ok (.iadd, 1) ∧ 56 + 1 = 57 := ⟨by decide +kernel, rfl⟩
theorem dc_F_counter_57 : decode prog_1_method_27_code 57 = .ok (.ireturn, 1) := by decide +kernel
end
section
/-! decode rows (by program: wip/gen/g03.py) -/
theorem dc_M_init_0 : decode prog_9_method_1_code 0 = .ok (.aload_n 0, 1) ∧ 0 + 1 = 1 := ⟨by decide +kernel, rfl⟩
theorem dc_M_init_1 : decode prog_9_method_1_code 1 = .ok (.invokespecial 1, 3) ∧ 1 + 3 = 4 := ⟨by decide +kernel, rfl⟩
theorem dc_M_init_4 : decode prog_9_method_1_code 4 = .ok (.aload_n 0, 1) ∧ 4 + 1 = 5 := ⟨by decide +kernel, rfl⟩
theorem dc_M_init_5 : decode prog_9_method_1_code 5 = .ok (.bipush 80, 2) ∧ 5 + 2 = 7 := ⟨by decide +kernel, rfl⟩
theorem dc_M_init_7 : decode prog_9_method_1_code 7 = .ok (.newarray .int, 2) ∧ 7 + 2 = 9 := ⟨by decide +kernel, rfl⟩
theorem dc_M_init_9 : decode prog_9_method_1_code 9 = .ok (.putfield 7, 3) ∧ 9 + 3 = 12 := ⟨by decide +kernel, rfl⟩
theorem dc_M_init_12 : decode prog_9_method_1_code 12 = .ok (.aload_n 0, 1) ∧ 12 + 1 = 13 := ⟨by decide +kernel, rfl⟩
theorem dc_M_init_13 : decode prog_9_method_1_code 13 = .ok (.sipush 480, 3) ∧ 13 + 3 = 16 := ⟨by decide +kernel, rfl⟩
theorem dc_M_init_16 : decode prog_9_method_1_code 16 = .ok (.newarray .int, 2) ∧ 16 + 2 = 18 := ⟨by decide +kernel, rfl⟩
theorem dc_M_init_18 : decode prog_9_method_1_code 18 = .ok (.putfield 13, 3) ∧ 18 + 3 = 21 := ⟨by decide +kernel, rfl⟩
theorem dc_M_init_21 : decode prog_9_method_1_code 21 = .ok (.aload_n 0, 1) ∧ 21 + 1 = 22 := ⟨by decide +kernel, rfl⟩
theorem dc_M_init_22 : decode prog_9_method_1_code 22 = .ok (.sipush 160, 3) ∧ 22 + 3 = 25 := ⟨by decide +kernel, rfl⟩
theorem dc_M_init_25 : decode prog_9_method_1_code 25 = .ok (.newarray .int, 2) ∧ 25 + 2 = 27 := ⟨by decide +kernel, rfl⟩
theorem dc_M_init_27 : decode prog_9_method_1_code 27 = .ok (.putfield 16, 3) ∧ 27 + 3 = 30 := ⟨by decide +kernel, rfl⟩
theorem dc_M_init_30 : decode prog_9_method_1_code 30 = .ok (.aload_n 0, 1) ∧ 30 + 1 = 31 := ⟨by decide +kernel, rfl⟩
theorem dc_M_init_31 : decode prog_9_method_1_code 31 = .ok (.bipush 80, 2) ∧ 31 + 2 = 33 := ⟨by decide +kernel, rfl⟩
theorem dc_M_init_33 : decode prog_9_method_1_code 33 = .ok (.newarray .int, 2) ∧ 33 + 2 = 35 := ⟨by decide +kernel, rfl⟩
theorem dc_M_init_35 : decode prog_9_method_1_code 35 = .ok (.putfield 19, 3) ∧ 35 + 3 = 38 := ⟨by decide +kernel, rfl⟩
theorem dc_M_init_38 : decode prog_9_method_1_code 38 = .ok (.aload_n 0, 1) ∧ 38 + 1 = 39 := ⟨by decide +kernel, rfl⟩
theorem dc_M_init_39 : decode prog_9_method_1_code 39 = .ok (.bipush 100, 2) ∧ 39 + 2 = 41 := ⟨by decide +kernel, rfl⟩
theorem dc_M_init_41 : decode prog_9_method_1_code 41 = .ok (.newarray .byte, 2) ∧ 41 + 2 = 43 := ⟨by decide +kernel, rfl⟩
theorem dc_M_init_43 : decode prog_9_method_1_code 43 = .ok (.putfield 22, 3) ∧ 43 + 3 = 46 := ⟨by decide +kernel, rfl⟩
theorem dc_M_init_46 : decode prog_9_method_1_code 46 = .ok (.aload_n 0, 1) ∧ 46 + 1 = 47 := ⟨by decide +kernel, rfl⟩
theorem dc_M_init_47 : decode prog_9_method_1_code 47 = .ok (.getfield 7, 3) ∧ 47 + 3 = 50 := ⟨by decide +kernel, rfl⟩
theorem dc_M_init_50 : decode prog_9_method_1_code 50 = .ok (.iconst 0, 1) ∧ 50 + 1 = 51 := ⟨by decide +kernel, rfl⟩
theorem dc_M_init_51 : decode prog_9_method_1_code 51 = .ok (.iconst 4, 1) ∧ 51 + 1 = 52 := ⟨by decide +kernel, rfl⟩
theorem dc_M_init_52 : decode prog_9_method_1_code 52 = .ok (.iastore, 1) ∧ 52 + 1 = 53 := ⟨by decide +kernel, rfl⟩
theorem dc_M_init_53 : decode prog_9_method_1_code 53 = .ok (.aload_n 0, 1) ∧ 53 + 1 = 54 := ⟨by decide +kernel, rfl⟩
theorem dc_M_init_54 : decode prog_9_method_1_code 54 = .ok (.getfield 7, 3) ∧ 54 + 3 = 57 := ⟨by decide +kernel, rfl⟩
theorem dc_M_init_57 : decode prog_9_method_1_code 57 = .ok (.iconst 1, 1) ∧ 57 + 1 = 58 := ⟨by decide +kernel, rfl⟩
theorem dc_M_init_58 : decode prog_9_method_1_code 58 = .ok (.bipush 100, 2) ∧ 58 + 2 = 60 := ⟨by decide +kernel, rfl⟩
theorem dc_M_init_60 : decode prog_9_method_1_code 60 = .ok (.iastore, 1) ∧ 60 + 1 = 61 := ⟨by decide +kernel, rfl⟩
theorem dc_M_init_61 : decode prog_9_method_1_code 61 = .ok (.aload_n 0, 1) ∧ 61 + 1 = 62 := ⟨by decide +kernel, rfl⟩
theorem dc_M_init_62 : decode prog_9_method_1_code 62 = .ok (.getfield 7, 3) ∧ 62 + 3 = 65 := ⟨by decide +kernel, rfl⟩
theorem dc_M_init_65 : decode prog_9_method_1_code 65 = .ok (.iconst 2, 1) ∧ 65 + 1 = 66 := ⟨by decide +kernel, rfl⟩
theorem dc_M_init_66 : decode prog_9_method_1_code 66 = .ok (.bipush 100, 2) ∧ 66 + 2 = 68 := ⟨by decide +kernel, rfl⟩
theorem dc_M_init_68 : decode prog_9_method_1_code 68 = .ok (.iastore, 1) ∧ 68 + 1 = 69 := ⟨by decide +kernel, rfl⟩
theorem dc_M_init_69 : decode prog_9_method_1_code 69 = .ok (.aload_n 0, 1) ∧ 69 + 1 = 70 := ⟨by decide +kernel, rfl⟩
theorem dc_M_init_70 : decode prog_9_method_1_code 70 = .ok (.getfield 7, 3) ∧ 70 + 3 = 73 := ⟨by decide +kernel, rfl⟩
theorem dc_M_init_73 : decode prog_9_method_1_code 73 = .ok (.iconst 3, 1) ∧ 73 + 1 = 74 := ⟨by decide +kernel, rfl⟩
theorem dc_M_init_74 : decode prog_9_method_1_code 74 = .ok (.bipush 10, 2) ∧ 74 + 2 = 76 := ⟨by decide +kernel, rfl⟩
theorem dc_M_init_76 : decode prog_9_method_1_code 76 = .ok (.iastore, 1) ∧ 76 + 1 = 77 := ⟨by decide +kernel, rfl⟩
theorem dc_M_init_77 : decode prog_9_method_1_code 77 = .ok (.return_, 1) := by decide +kernel
theorem dc_M_undo_0 : decode prog_9_method_7_code 0 = .ok (.aload_n 0, 1) ∧ 0 + 1 = 1 := ⟨by decide +kernel, rfl⟩
theorem dc_M_undo_1 : decode prog_9_method_7_code 1 = .ok (.getfield 26, 3) ∧ 1 + 3 = 4 := ⟨by decide +kernel, rfl⟩
theorem dc_M_undo_4 : decode prog_9_method_7_code 4 = .ok (.ifCond .ne 6, 3) ∧ ((4 : Nat) : Int) + (6) = ((10 : Nat) : Int) ∧ 4 + 3 = 7 := ⟨by decide +kernel, by decide, rfl⟩
theorem dc_M_undo_7 : decode prog_9_method_7_code 7 = .ok (.ldc 30, 2) ∧ 7 + 2 = 9 := ⟨by decide +kernel, rfl⟩
theorem dc_M_undo_9 : decode prog_9_method_7_code 9 = .ok (.ireturn, 1) := by decide +kernel
theorem dc_M_undo_10 : decode prog_9_method_7_code 10 = .ok (.aload_n 0, 1) ∧ 10 + 1 = 11 := ⟨by decide +kernel, rfl⟩
theorem dc_M_undo_11 : decode prog_9_method_7_code 11 = .ok (.dup, 1) ∧ 11 + 1 = 12 := ⟨by decide +kernel, rfl⟩
theorem dc_M_undo_12 : decode prog_9_method_7_code 12 = .ok (.getfield 26, 3) ∧ 12 + 3 = 15 := ⟨by decide +kernel, rfl⟩
theorem dc_M_undo_15 : decode prog_9_method_7_code 15 = .ok (.iconst 1, 1) ∧ 15 + 1 = 16 := ⟨by decide +kernel, rfl⟩
theorem dc_M_undo_16 : decode prog_9_method_7_code 16 = .ok (.isub, 1) ∧ 16 + 1 = 17 := ⟨by decide +kernel, rfl⟩
theorem dc_M_undo_17 : decode prog_9_method_7_code 17 = .ok (.putfield 26, 3) ∧ 17 + 3 = 20 := ⟨by decide +kernel, rfl⟩
theorem dc_M_undo_20 : decode prog_9_method_7_code 20 = .ok (.iconst 0, 1) ∧ 20 + 1 = 21 := ⟨by decide +kernel, rfl⟩
theorem dc_M_undo_21 : decode prog_9_method_7_code 21 = .ok (.istore_n 1, 1) ∧ 21 + 1 = 22 := ⟨by decide +kernel, rfl⟩
theorem dc_M_undo_22 : decode prog_9_method_7_code 22 = .ok (.iload_n 1, 1) ∧ 22 + 1 = 23 := ⟨by decide +kernel, rfl⟩
theorem dc_M_undo_23 : decode prog_9_method_7_code 23 = .ok (.bipush 80, 2) ∧ 23 + 2 = 25 := ⟨by decide +kernel, rfl⟩
theorem dc_M_undo_25 : decode prog_9_method_7_code 25 = .ok (.if_icmp .ge 29, 3) ∧ ((25 : Nat) : Int) + (29) = ((54 : Nat) : Int) ∧ 25 + 3 = 28 := ⟨by decide +kernel, by decide, rfl⟩
theorem dc_M_undo_28 : decode prog_9_method_7_code 28 = .ok (.aload_n 0, 1) ∧ 28 + 1 = 29 := ⟨by decide +kernel, rfl⟩
theorem dc_M_undo_29 : decode prog_9_method_7_code 29 = .ok (.getfield 7, 3) ∧ 29 + 3 = 32 := ⟨by decide +kernel, rfl⟩
theorem dc_M_undo_32 : decode prog_9_method_7_code 32 = .ok (.iload_n 1, 1) ∧ 32 + 1 = 33 := ⟨by decide +kernel, rfl⟩
theorem dc_M_undo_33 : decode prog_9_method_7_code 33 = .ok (.aload_n 0, 1) ∧ 33 + 1 = 34 := ⟨by decide +kernel, rfl⟩
theorem dc_M_undo_34 : decode prog_9_method_7_code 34 = .ok (.getfield 13, 3) ∧ 34 + 3 = 37 := ⟨by decide +kernel, rfl⟩
theorem dc_M_undo_37 : decode prog_9_method_7_code 37 = .ok (.bipush 80, 2) ∧ 37 + 2 = 39 := ⟨by decide +kernel, rfl⟩
theorem dc_M_undo_39 : decode prog_9_method_7_code 39 = .ok (.aload_n 0, 1) ∧ 39 + 1 = 40 := ⟨by decide +kernel, rfl⟩
theorem dc_M_undo_40 : decode prog_9_method_7_code 40 = .ok (.getfield 26, 3) ∧ 40 + 3 = 43 := ⟨by decide +kernel, rfl⟩
theorem dc_M_undo_43 : decode prog_9_method_7_code 43 = .ok (.imul, 1) ∧ 43 + 1 = 44 := ⟨by decide +kernel, rfl⟩
theorem dc_M_undo_44 : decode prog_9_method_7_code 44 = .ok (.iload_n 1, 1) ∧ 44 + 1 = 45 := ⟨by decide +kernel, rfl⟩
theorem dc_M_undo_45 : decode prog_9_method_7_code 45 = .ok (.iadd, 1) ∧ 45 + 1 = 46 := ⟨by decide +kernel, rfl⟩
theorem dc_M_undo_46 : decode prog_9_method_7_code 46 = .ok (.iaload, 1) ∧ 46 + 1 = 47 := ⟨by decide +kernel, rfl⟩
theorem dc_M_undo_47 : decode prog_9_method_7_code 47 = .ok (.iastore, 1) ∧ 47 + 1 = 48 := ⟨by decide +kernel, rfl⟩
theorem dc_M_undo_48 : decode prog_9_method_7_code 48 = .ok (.iinc 1 1, 3) ∧ 48 + 3 = 51 := ⟨by decide +kernel, rfl⟩
theorem dc_M_undo_51 : decode prog_9_method_7_code 51 = .ok (.goto (-29), 3) ∧ ((51 : Nat) : Int) + (-29) = ((22 : Nat) : Int) := ⟨by decide +kernel, by decide⟩
theorem dc_M_undo_54 : decode prog_9_method_7_code 54 = .ok (.aload_n 0, 1) ∧ 54 + 1 = 55 := ⟨by decide +kernel, rfl⟩
theorem dc_M_undo_55 : decode prog_9_method_7_code 55 = .ok (.getfield 26, 3) ∧ 55 + 3 = 58 := ⟨by decide +kernel, rfl⟩
theorem dc_M_undo_58 : decode prog_9_method_7_code 58 = .ok (.ireturn, 1) := by decide +kernel
theorem dc_M_setNumber_0 : decode prog_9_method_20_code 0 = .ok (.iload_n 1, 1) ∧ 0 + 1 = 1 := ⟨by decide +kernel, rfl⟩
theorem dc_M_setNumber_1 : decode prog_9_method_20_code 1 = .ok (.iload_n 2, 1) ∧ 1 + 1 = 2 := ⟨by decide +kernel, rfl⟩
theorem dc_M_setNumber_2 : decode prog_9_method_20_code 2 = .ok (.invokestatic 61, 3) ∧ 2 + 3 = 5 := ⟨by decide +kernel, rfl⟩
theorem dc_M_setNumber_5 : decode prog_9_method_20_code 5 = .ok (.ifCond .ne 6, 3) ∧ ((5 : Nat) : Int) + (6) = ((11 : Nat) : Int) ∧ 5 + 3 = 8 := ⟨by decide +kernel, by decide, rfl⟩
theorem dc_M_setNumber_8 : decode prog_9_method_20_code 8 = .ok (.ldc 64, 2) ∧ 8 + 2 = 10 := ⟨by decide +kernel, rfl⟩
theorem dc_M_setNumber_10 : decode prog_9_method_20_code 10 = .ok (.ireturn, 1) := by decide +kernel
theorem dc_M_setNumber_11 : decode prog_9_method_20_code 11 = .ok (.aload_n 0, 1) ∧ 11 + 1 = 12 := ⟨by decide +kernel, rfl⟩
theorem dc_M_setNumber_12 : decode prog_9_method_20_code 12 = .ok (.invokevirtual 47, 3) ∧ 12 + 3 = 15 := ⟨by decide +kernel, rfl⟩
theorem dc_M_setNumber_15 : decode prog_9_method_20_code 15 = .ok (.aload_n 0, 1) ∧ 15 + 1 = 16 := ⟨by decide +kernel, rfl⟩
theorem dc_M_setNumber_16 : decode prog_9_method_20_code 16 = .ok (.getfield 7, 3) ∧ 16 + 3 = 19 := ⟨by decide +kernel, rfl⟩
theorem dc_M_setNumber_19 : decode prog_9_method_20_code 19 = .ok (.iload_n 1, 1) ∧ 19 + 1 = 20 := ⟨by decide +kernel, rfl⟩
theorem dc_M_setNumber_20 : decode prog_9_method_20_code 20 = .ok (.iaload, 1) ∧ 20 + 1 = 21 := ⟨by decide +kernel, rfl⟩
theorem dc_M_setNumber_21 : decode prog_9_method_20_code 21 = .ok (.istore_n 3, 1) ∧ 21 + 1 = 22 := ⟨by decide +kernel, rfl⟩
theorem dc_M_setNumber_22 : decode prog_9_method_20_code 22 = .ok (.aload_n 0, 1) ∧ 22 + 1 = 23 := ⟨by decide +kernel, rfl⟩
theorem dc_M_setNumber_23 : decode prog_9_method_20_code 23 = .ok (.getfield 7, 3) ∧ 23 + 3 = 26 := ⟨by decide +kernel, rfl⟩
theorem dc_M_setNumber_26 : decode prog_9_method_20_code 26 = .ok (.iload_n 1, 1) ∧ 26 + 1 = 27 := ⟨by decide +kernel, rfl⟩
theorem dc_M_setNumber_27 : decode prog_9_method_20_code 27 = .ok (.iload_n 2, 1) ∧ 27 + 1 = 28 := ⟨by decide +kernel, rfl⟩
theorem dc_M_setNumber_28 : decode prog_9_method_20_code 28 = .ok (.iastore, 1) ∧ 28 + 1 = 29 := ⟨by decide +kernel, rfl⟩
theorem dc_M_setNumber_29 : decode prog_9_method_20_code 29 = .ok (.iload_n 3, 1) ∧ 29 + 1 = 30 := ⟨by decide +kernel, rfl⟩
theorem dc_M_setNumber_30 : decode prog_9_method_20_code 30 = .ok (.ireturn, 1) := by decide +kernel
theorem dc_M_isNumber_0 : decode prog_9_method_19_code 0 = .ok (.iload_n 0, 1) ∧ 0 + 1 = 1 := ⟨by decide +kernel, rfl⟩
theorem dc_M_isNumber_1 : decode prog_9_method_19_code 1 = .ok (.tableswitch 106 0 5 #[39, 72, 81, 90, 98, 98], 39) ∧ ((1 : Nat) : Int) + (106) = ((107 : Nat) : Int) ∧ (5 : Int) + 1 - (0) = (([40, 73, 82, 91, 99, 99] : List Nat).length : Int) ∧ (#[39, 72, 81, 90, 98, 98] : Array Int).toList.map (fun o => ((1 : Nat) : Int) + o) = ([40, 73, 82, 91, 99, 99] : List Nat).map (fun t : Nat => (t : Int)) := ⟨by decide +kernel, by decide, by decide, by decide⟩
theorem dc_M_isNumber_40 : decode prog_9_method_19_code 40 = .ok (.iload_n 1, 1) ∧ 40 + 1 = 41 := ⟨by decide +kernel, rfl⟩
theorem dc_M_isNumber_41 : decode prog_9_method_19_code 41 = .ok (.iconst 1, 1) ∧ 41 + 1 = 42 := ⟨by decide +kernel, rfl⟩
theorem dc_M_isNumber_42 : decode prog_9_method_19_code 42 = .ok (.if_icmp .eq 25, 3) ∧ ((42 : Nat) : Int) + (25) = ((67 : Nat) : Int) ∧ 42 + 3 = 45 := ⟨by decide +kernel, by decide, rfl⟩
theorem dc_M_isNumber_45 : decode prog_9_method_19_code 45 = .ok (.iload_n 1, 1) ∧ 45 + 1 = 46 := ⟨by decide +kernel, rfl⟩
theorem dc_M_isNumber_46 : decode prog_9_method_19_code 46 = .ok (.iconst 2, 1) ∧ 46 + 1 = 47 := ⟨by decide +kernel, rfl⟩
theorem dc_M_isNumber_47 : decode prog_9_method_19_code 47 = .ok (.if_icmp .eq 20, 3) ∧ ((47 : Nat) : Int) + (20) = ((67 : Nat) : Int) ∧ 47 + 3 = 50 := ⟨by decide +kernel, by decide, rfl⟩
theorem dc_M_isNumber_50 : decode prog_9_method_19_code 50 = .ok (.iload_n 1, 1) ∧ 50 + 1 = 51 := ⟨by decide +kernel, rfl⟩
theorem dc_M_isNumber_51 : decode prog_9_method_19_code 51 = .ok (.iconst 4, 1) ∧ 51 + 1 = 52 := ⟨by decide +kernel, rfl⟩
theorem dc_M_isNumber_52 : decode prog_9_method_19_code 52 = .ok (.if_icmp .eq 15, 3) ∧ ((52 : Nat) : Int) + (15) = ((67 : Nat) : Int) ∧ 52 + 3 = 55 := ⟨by decide +kernel, by decide, rfl⟩
theorem dc_M_isNumber_55 : decode prog_9_method_19_code 55 = .ok (.iload_n 1, 1) ∧ 55 + 1 = 56 := ⟨by decide +kernel, rfl⟩
theorem dc_M_isNumber_56 : decode prog_9_method_19_code 56 = .ok (.bipush 8, 2) ∧ 56 + 2 = 58 := ⟨by decide +kernel, rfl⟩
theorem dc_M_isNumber_58 : decode prog_9_method_19_code 58 = .ok (.if_icmp .eq 9, 3) ∧ ((58 : Nat) : Int) + (9) = ((67 : Nat) : Int) ∧ 58 + 3 = 61 := ⟨by decide +kernel, by decide, rfl⟩
theorem dc_M_isNumber_61 : decode prog_9_method_19_code 61 = .ok (.iload_n 1, 1) ∧ 61 + 1 = 62 := ⟨by decide +kernel, rfl⟩
theorem dc_M_isNumber_62 : decode prog_9_method_19_code 62 = .ok (.bipush 16, 2) ∧ 62 + 2 = 64 := ⟨by decide +kernel, rfl⟩
theorem dc_M_isNumber_64 : decode prog_9_method_19_code 64 = .ok (.if_icmp .ne 7, 3) ∧ ((64 : Nat) : Int) + (7) = ((71 : Nat) : Int) ∧ 64 + 3 = 67 := ⟨by decide +kernel, by decide, rfl⟩
theorem dc_M_isNumber_67 : decode prog_9_method_19_code 67 = .ok (.iconst 1, 1) ∧ 67 + 1 = 68 := ⟨by decide +kernel, rfl⟩
theorem dc_M_isNumber_68 : decode prog_9_method_19_code 68 = .ok (.goto 4, 3) ∧ ((68 : Nat) : Int) + (4) = ((72 : Nat) : Int) := ⟨by decide +kernel, by decide⟩
theorem dc_M_isNumber_71 : decode prog_9_method_19_code 71 = .ok (.iconst 0, 1) ∧ 71 + 1 = 72 := ⟨by decide +kernel, rfl⟩
theorem dc_M_isNumber_72 : decode prog_9_method_19_code 72 = .ok (.ireturn, 1) := by decide +kernel
theorem dc_M_isNumber_73 : decode prog_9_method_19_code 73 = .ok (.iload_n 1, 1) ∧ 73 + 1 = 74 := ⟨by decide +kernel, rfl⟩
theorem dc_M_isNumber_74 : decode prog_9_method_19_code 74 = .ok (.iconst 0, 1) ∧ 74 + 1 = 75 := ⟨by decide +kernel, rfl⟩
theorem dc_M_isNumber_75 : decode prog_9_method_19_code 75 = .ok (.sipush 200, 3) ∧ 75 + 3 = 78 := ⟨by decide +kernel, rfl⟩
theorem dc_M_isNumber_78 : decode prog_9_method_19_code 78 = .ok (.invokestatic 31, 3) ∧ 78 + 3 = 81 := ⟨by decide +kernel, rfl⟩
theorem dc_M_isNumber_81 : decode prog_9_method_19_code 81 = .ok (.ireturn, 1) := by decide +kernel
theorem dc_M_isNumber_82 : decode prog_9_method_19_code 82 = .ok (.iload_n 1, 1) ∧ 82 + 1 = 83 := ⟨by decide +kernel, rfl⟩
theorem dc_M_isNumber_83 : decode prog_9_method_19_code 83 = .ok (.iconst 1, 1) ∧ 83 + 1 = 84 := ⟨by decide +kernel, rfl⟩
theorem dc_M_isNumber_84 : decode prog_9_method_19_code 84 = .ok (.sipush 1000, 3) ∧ 84 + 3 = 87 := ⟨by decide +kernel, rfl⟩
theorem dc_M_isNumber_87 : decode prog_9_method_19_code 87 = .ok (.invokestatic 31, 3) ∧ 87 + 3 = 90 := ⟨by decide +kernel, rfl⟩
theorem dc_M_isNumber_90 : decode prog_9_method_19_code 90 = .ok (.ireturn, 1) := by decide +kernel
theorem dc_M_isNumber_91 : decode prog_9_method_19_code 91 = .ok (.iload_n 1, 1) ∧ 91 + 1 = 92 := ⟨by decide +kernel, rfl⟩
theorem dc_M_isNumber_92 : decode prog_9_method_19_code 92 = .ok (.iconst 0, 1) ∧ 92 + 1 = 93 := ⟨by decide +kernel, rfl⟩
theorem dc_M_isNumber_93 : decode prog_9_method_19_code 93 = .ok (.bipush 100, 2) ∧ 93 + 2 = 95 := ⟨by decide +kernel, rfl⟩
theorem dc_M_isNumber_95 : decode prog_9_method_19_code 95 = .ok (.invokestatic 31, 3) ∧ 95 + 3 = 98 := ⟨by decide +kernel, rfl⟩
theorem dc_M_isNumber_98 : decode prog_9_method_19_code 98 = .ok (.ireturn, 1) := by decide +kernel
theorem dc_M_isNumber_99 : decode prog_9_method_19_code 99 = .ok (.iload_n 1, 1) ∧ 99 + 1 = 100 := ⟨by decide +kernel, rfl⟩
theorem dc_M_isNumber_100 : decode prog_9_method_19_code 100 = .ok (.iconst 0, 1) ∧ 100 + 1 = 101 := ⟨by decide +kernel, rfl⟩
theorem dc_M_isNumber_101 : decode prog_9_method_19_code 101 = .ok (.bipush 50, 2) ∧ 101 + 2 = 103 := ⟨by decide +kernel, rfl⟩
theorem dc_M_isNumber_103 : decode prog_9_method_19_code 103 = .ok (.invokestatic 31, 3) ∧ 103 + 3 = 106 := ⟨by decide +kernel, rfl⟩
theorem dc_M_isNumber_106 : decode prog_9_method_19_code 106 = .ok (.ireturn, 1) := by decide +kernel
theorem dc_M_isNumber_107 : decode prog_9_method_19_code 107 = .ok (.iconst 0, 1) ∧ 107 + 1 = 108 := ⟨by decide +kernel, rfl⟩
theorem dc_M_isNumber_108 : decode prog_9_method_19_code 108 = .ok (.ireturn, 1) := by decide +kernel
theorem dc_M_in_0 : decode prog_9_method_3_code 0 = .ok (.iload_n 0, 1) ∧ 0 + 1 = 1 := ⟨by decide +kernel, rfl⟩
theorem dc_M_in_1 : decode prog_9_method_3_code 1 = .ok (.iload_n 1, 1) ∧ 1 + 1 = 2 := ⟨by decide +kernel, rfl⟩
theorem dc_M_in_2 : decode prog_9_method_3_code 2 = .ok (.if_icmp .lt 12, 3) ∧ ((2 : Nat) : Int) + (12) = ((14 : Nat) : Int) ∧ 2 + 3 = 5 := ⟨by decide +kernel, by decide, rfl⟩
theorem dc_M_in_5 : decode prog_9_method_3_code 5 = .ok (.iload_n 0, 1) ∧ 5 + 1 = 6 := ⟨by decide +kernel, rfl⟩
theorem dc_M_in_6 : decode prog_9_method_3_code 6 = .ok (.iload_n 2, 1) ∧ 6 + 1 = 7 := ⟨by decide +kernel, rfl⟩
theorem dc_M_in_7 : decode prog_9_method_3_code 7 = .ok (.if_icmp .gt 7, 3) ∧ ((7 : Nat) : Int) + (7) = ((14 : Nat) : Int) ∧ 7 + 3 = 10 := ⟨by decide +kernel, by decide, rfl⟩
theorem dc_M_in_10 : decode prog_9_method_3_code 10 = .ok (.iconst 1, 1) ∧ 10 + 1 = 11 := ⟨by decide +kernel, rfl⟩
theorem dc_M_in_11 : decode prog_9_method_3_code 11 = .ok (.goto 4, 3) ∧ ((11 : Nat) : Int) + (4) = ((15 : Nat) : Int) := ⟨by decide +kernel, by decide⟩
theorem dc_M_in_14 : decode prog_9_method_3_code 14 = .ok (.iconst 0, 1) ∧ 14 + 1 = 15 := ⟨by decide +kernel, rfl⟩
theorem dc_M_in_15 : decode prog_9_method_3_code 15 = .ok (.ireturn, 1) := by decide +kernel
theorem dc_M_notes_0 : decode prog_9_method_6_code 0 = .ok (.aload_n 0, 1) ∧ 0 + 1 = 1 := ⟨by decide +kernel, rfl⟩
theorem dc_M_notes_1 : decode prog_9_method_6_code 1 = .ok (.getfield 26, 3) ∧ 1 + 3 = 4 := ⟨by decide +kernel, rfl⟩
theorem dc_M_notes_4 : decode prog_9_method_6_code 4 = .ok (.bipush 6, 2) ∧ 4 + 2 = 6 := ⟨by decide +kernel, rfl⟩
theorem dc_M_notes_6 : decode prog_9_method_6_code 6 = .ok (.if_icmp .ne 43, 3) ∧ ((6 : Nat) : Int) + (43) = ((49 : Nat) : Int) ∧ 6 + 3 = 9 := ⟨by decide +kernel, by decide, rfl⟩
theorem dc_M_notes_9 : decode prog_9_method_6_code 9 = .ok (.iconst 0, 1) ∧ 9 + 1 = 10 := ⟨by decide +kernel, rfl⟩
theorem dc_M_notes_10 : decode prog_9_method_6_code 10 = .ok (.istore_n 1, 1) ∧ 10 + 1 = 11 := ⟨by decide +kernel, rfl⟩
theorem dc_M_notes_11 : decode prog_9_method_6_code 11 = .ok (.iload_n 1, 1) ∧ 11 + 1 = 12 := ⟨by decide +kernel, rfl⟩
theorem dc_M_notes_12 : decode prog_9_method_6_code 12 = .ok (.sipush 400, 3) ∧ 12 + 3 = 15 := ⟨by decide +kernel, rfl⟩
theorem dc_M_notes_15 : decode prog_9_method_6_code 15 = .ok (.if_icmp .ge 24, 3) ∧ ((15 : Nat) : Int) + (24) = ((39 : Nat) : Int) ∧ 15 + 3 = 18 := ⟨by decide +kernel, by decide, rfl⟩
theorem dc_M_notes_18 : decode prog_9_method_6_code 18 = .ok (.aload_n 0, 1) ∧ 18 + 1 = 19 := ⟨by decide +kernel, rfl⟩
theorem dc_M_notes_19 : decode prog_9_method_6_code 19 = .ok (.getfield 13, 3) ∧ 19 + 3 = 22 := ⟨by decide +kernel, rfl⟩
theorem dc_M_notes_22 : decode prog_9_method_6_code 22 = .ok (.iload_n 1, 1) ∧ 22 + 1 = 23 := ⟨by decide +kernel, rfl⟩
theorem dc_M_notes_23 : decode prog_9_method_6_code 23 = .ok (.aload_n 0, 1) ∧ 23 + 1 = 24 := ⟨by decide +kernel, rfl⟩
theorem dc_M_notes_24 : decode prog_9_method_6_code 24 = .ok (.getfield 13, 3) ∧ 24 + 3 = 27 := ⟨by decide +kernel, rfl⟩
theorem dc_M_notes_27 : decode prog_9_method_6_code 27 = .ok (.iload_n 1, 1) ∧ 27 + 1 = 28 := ⟨by decide +kernel, rfl⟩
theorem dc_M_notes_28 : decode prog_9_method_6_code 28 = .ok (.bipush 80, 2) ∧ 28 + 2 = 30 := ⟨by decide +kernel, rfl⟩
theorem dc_M_notes_30 : decode prog_9_method_6_code 30 = .ok (.iadd, 1) ∧ 30 + 1 = 31 := ⟨by decide +kernel, rfl⟩
theorem dc_M_notes_31 : decode prog_9_method_6_code 31 = .ok (.iaload, 1) ∧ 31 + 1 = 32 := ⟨by decide +kernel, rfl⟩
theorem dc_M_notes_32 : decode prog_9_method_6_code 32 = .ok (.iastore, 1) ∧ 32 + 1 = 33 := ⟨by decide +kernel, rfl⟩
theorem dc_M_notes_33 : decode prog_9_method_6_code 33 = .ok (.iinc 1 1, 3) ∧ 33 + 3 = 36 := ⟨by decide +kernel, rfl⟩
theorem dc_M_notes_36 : decode prog_9_method_6_code 36 = .ok (.goto (-25), 3) ∧ ((36 : Nat) : Int) + (-25) = ((11 : Nat) : Int) := ⟨by decide +kernel, by decide⟩
theorem dc_M_notes_39 : decode prog_9_method_6_code 39 = .ok (.aload_n 0, 1) ∧ 39 + 1 = 40 := ⟨by decide +kernel, rfl⟩
theorem dc_M_notes_40 : decode prog_9_method_6_code 40 = .ok (.dup, 1) ∧ 40 + 1 = 41 := ⟨by decide +kernel, rfl⟩
theorem dc_M_notes_41 : decode prog_9_method_6_code 41 = .ok (.getfield 26, 3) ∧ 41 + 3 = 44 := ⟨by decide +kernel, rfl⟩
theorem dc_M_notes_44 : decode prog_9_method_6_code 44 = .ok (.iconst 1, 1) ∧ 44 + 1 = 45 := ⟨by decide +kernel, rfl⟩
theorem dc_M_notes_45 : decode prog_9_method_6_code 45 = .ok (.isub, 1) ∧ 45 + 1 = 46 := ⟨by decide +kernel, rfl⟩
theorem dc_M_notes_46 : decode prog_9_method_6_code 46 = .ok (.putfield 26, 3) ∧ 46 + 3 = 49 := ⟨by decide +kernel, rfl⟩
theorem dc_M_notes_49 : decode prog_9_method_6_code 49 = .ok (.iconst 0, 1) ∧ 49 + 1 = 50 := ⟨by decide +kernel, rfl⟩
theorem dc_M_notes_50 : decode prog_9_method_6_code 50 = .ok (.istore_n 1, 1) ∧ 50 + 1 = 51 := ⟨by decide +kernel, rfl⟩
theorem dc_M_notes_51 : decode prog_9_method_6_code 51 = .ok (.iload_n 1, 1) ∧ 51 + 1 = 52 := ⟨by decide +kernel, rfl⟩
theorem dc_M_notes_52 : decode prog_9_method_6_code 52 = .ok (.bipush 80, 2) ∧ 52 + 2 = 54 := ⟨by decide +kernel, rfl⟩
theorem dc_M_notes_54 : decode prog_9_method_6_code 54 = .ok (.if_icmp .ge 29, 3) ∧ ((54 : Nat) : Int) + (29) = ((83 : Nat) : Int) ∧ 54 + 3 = 57 := ⟨by decide +kernel, by decide, rfl⟩
theorem dc_M_notes_57 : decode prog_9_method_6_code 57 = .ok (.aload_n 0, 1) ∧ 57 + 1 = 58 := ⟨by decide +kernel, rfl⟩
theorem dc_M_notes_58 : decode prog_9_method_6_code 58 = .ok (.getfield 13, 3) ∧ 58 + 3 = 61 := ⟨by decide +kernel, rfl⟩
theorem dc_M_notes_61 : decode prog_9_method_6_code 61 = .ok (.bipush 80, 2) ∧ 61 + 2 = 63 := ⟨by decide +kernel, rfl⟩
theorem dc_M_notes_63 : decode prog_9_method_6_code 63 = .ok (.aload_n 0, 1) ∧ 63 + 1 = 64 := ⟨by decide +kernel, rfl⟩
theorem dc_M_notes_64 : decode prog_9_method_6_code 64 = .ok (.getfield 26, 3) ∧ 64 + 3 = 67 := ⟨by decide +kernel, rfl⟩
theorem dc_M_notes_67 : decode prog_9_method_6_code 67 = .ok (.imul, 1) ∧ 67 + 1 = 68 := ⟨by decide +kernel, rfl⟩
theorem dc_M_notes_68 : decode prog_9_method_6_code 68 = .ok (.iload_n 1, 1) ∧ 68 + 1 = 69 := ⟨by decide +kernel, rfl⟩
theorem dc_M_notes_69 : decode prog_9_method_6_code 69 = .ok (.iadd, 1) ∧ 69 + 1 = 70 := ⟨by decide +kernel, rfl⟩
theorem dc_M_notes_70 : decode prog_9_method_6_code 70 = .ok (.aload_n 0, 1) ∧ 70 + 1 = 71 := ⟨by decide +kernel, rfl⟩
theorem dc_M_notes_71 : decode prog_9_method_6_code 71 = .ok (.getfield 7, 3) ∧ 71 + 3 = 74 := ⟨by decide +kernel, rfl⟩
theorem dc_M_notes_74 : decode prog_9_method_6_code 74 = .ok (.iload_n 1, 1) ∧ 74 + 1 = 75 := ⟨by decide +kernel, rfl⟩
theorem dc_M_notes_75 : decode prog_9_method_6_code 75 = .ok (.iaload, 1) ∧ 75 + 1 = 76 := ⟨by decide +kernel, rfl⟩
theorem dc_M_notes_76 : decode prog_9_method_6_code 76 = .ok (.iastore, 1) ∧ 76 + 1 = 77 := ⟨by decide +kernel, rfl⟩
theorem dc_M_notes_77 : decode prog_9_method_6_code 77 = .ok (.iinc 1 1, 3) ∧ 77 + 3 = 80 := ⟨by decide +kernel, rfl⟩
theorem dc_M_notes_80 : decode prog_9_method_6_code 80 = .ok (.goto (-29), 3) ∧ ((80 : Nat) : Int) + (-29) = ((51 : Nat) : Int) := ⟨by decide +kernel, by decide⟩
theorem dc_M_notes_83 : decode prog_9_method_6_code 83 = .ok (.aload_n 0, 1) ∧ 83 + 1 = 84 := ⟨by decide +kernel, rfl⟩
theorem dc_M_notes_84 : decode prog_9_method_6_code 84 = .ok (.dup, 1) ∧ 84 + 1 = 85 := ⟨by decide +kernel, rfl⟩
theorem dc_M_notes_85 : decode prog_9_method_6_code 85 = .ok (.getfield 26, 3) ∧ 85 + 3 = 88 := ⟨by decide +kernel, rfl⟩
theorem dc_M_notes_88 : decode prog_9_method_6_code 88 = .ok (.iconst 1, 1) ∧ 88 + 1 = 89 := ⟨by decide +kernel, rfl⟩
theorem dc_M_notes_89 : decode prog_9_method_6_code 89 = .ok (.iadd, 1) ∧ 89 + 1 = 90 := ⟨by decide +kernel, rfl⟩
theorem dc_M_notes_90 : decode prog_9_method_6_code 90 = .ok (.putfield 26, 3) ∧ 90 + 3 = 93 := ⟨by decide +kernel, rfl⟩
theorem dc_M_notes_93 : decode prog_9_method_6_code 93 = .ok (.return_, 1) := by decide +kernel
theorem dc_M_setLoad_0 : decode prog_9_method_21_code 0 = .ok (.iload_n 1, 1) ∧ 0 + 1 = 1 := ⟨by decide +kernel, rfl⟩
theorem dc_M_setLoad_1 : decode prog_9_method_21_code 1 = .ok (.invokestatic 65, 3) ∧ 1 + 3 = 4 := ⟨by decide +kernel, rfl⟩
theorem dc_M_setLoad_4 : decode prog_9_method_21_code 4 = .ok (.ifCond .eq 26, 3) ∧ ((4 : Nat) : Int) + (26) = ((30 : Nat) : Int) ∧ 4 + 3 = 7 := ⟨by decide +kernel, by decide, rfl⟩
theorem dc_M_setLoad_7 : decode prog_9_method_21_code 7 = .ok (.iload_n 2, 1) ∧ 7 + 1 = 8 := ⟨by decide +kernel, rfl⟩
theorem dc_M_setLoad_8 : decode prog_9_method_21_code 8 = .ok (.iconst (-1), 1) ∧ 8 + 1 = 9 := ⟨by decide +kernel, rfl⟩
theorem dc_M_setLoad_9 : decode prog_9_method_21_code 9 = .ok (.sipush 200, 3) ∧ 9 + 3 = 12 := ⟨by decide +kernel, rfl⟩
theorem dc_M_setLoad_12 : decode prog_9_method_21_code 12 = .ok (.invokestatic 31, 3) ∧ 12 + 3 = 15 := ⟨by decide +kernel, rfl⟩
theorem dc_M_setLoad_15 : decode prog_9_method_21_code 15 = .ok (.ifCond .eq 15, 3) ∧ ((15 : Nat) : Int) + (15) = ((30 : Nat) : Int) ∧ 15 + 3 = 18 := ⟨by decide +kernel, by decide, rfl⟩
theorem dc_M_setLoad_18 : decode prog_9_method_21_code 18 = .ok (.aload_n 0, 1) ∧ 18 + 1 = 19 := ⟨by decide +kernel, rfl⟩
theorem dc_M_setLoad_19 : decode prog_9_method_21_code 19 = .ok (.bipush 21, 2) ∧ 19 + 2 = 21 := ⟨by decide +kernel, rfl⟩
theorem dc_M_setLoad_21 : decode prog_9_method_21_code 21 = .ok (.iload_n 1, 1) ∧ 21 + 1 = 22 := ⟨by decide +kernel, rfl⟩
theorem dc_M_setLoad_22 : decode prog_9_method_21_code 22 = .ok (.iload_n 2, 1) ∧ 22 + 1 = 23 := ⟨by decide +kernel, rfl⟩
theorem dc_M_setLoad_23 : decode prog_9_method_21_code 23 = .ok (.iconst (-1), 1) ∧ 23 + 1 = 24 := ⟨by decide +kernel, rfl⟩
theorem dc_M_setLoad_24 : decode prog_9_method_21_code 24 = .ok (.invokevirtual 69, 3) ∧ 24 + 3 = 27 := ⟨by decide +kernel, rfl⟩
theorem dc_M_setLoad_27 : decode prog_9_method_21_code 27 = .ok (.goto 5, 3) ∧ ((27 : Nat) : Int) + (5) = ((32 : Nat) : Int) := ⟨by decide +kernel, by decide⟩
theorem dc_M_setLoad_30 : decode prog_9_method_21_code 30 = .ok (.ldc 64, 2) ∧ 30 + 2 = 32 := ⟨by decide +kernel, rfl⟩
theorem dc_M_setLoad_32 : decode prog_9_method_21_code 32 = .ok (.ireturn, 1) := by decide +kernel
theorem dc_M_isPlace_0 : decode prog_9_method_11_code 0 = .ok (.iload_n 0, 1) ∧ 0 + 1 = 1 := ⟨by decide +kernel, rfl⟩
theorem dc_M_isPlace_1 : decode prog_9_method_11_code 1 = .ok (.sipush (-20000), 3) ∧ 1 + 3 = 4 := ⟨by decide +kernel, rfl⟩
theorem dc_M_isPlace_4 : decode prog_9_method_11_code 4 = .ok (.sipush 20000, 3) ∧ 4 + 3 = 7 := ⟨by decide +kernel, rfl⟩
theorem dc_M_isPlace_7 : decode prog_9_method_11_code 7 = .ok (.invokestatic 31, 3) ∧ 7 + 3 = 10 := ⟨by decide +kernel, rfl⟩
theorem dc_M_isPlace_10 : decode prog_9_method_11_code 10 = .ok (.ireturn, 1) := by decide +kernel
theorem dc_M_sets_0 : decode prog_9_method_18_code 0 = .ok (.aload_n 0, 1) ∧ 0 + 1 = 1 := ⟨by decide +kernel, rfl⟩
theorem dc_M_sets_1 : decode prog_9_method_18_code 1 = .ok (.iload_n 1, 1) ∧ 1 + 1 = 2 := ⟨by decide +kernel, rfl⟩
theorem dc_M_sets_2 : decode prog_9_method_18_code 2 = .ok (.iload_n 2, 1) ∧ 2 + 1 = 3 := ⟨by decide +kernel, rfl⟩
theorem dc_M_sets_3 : decode prog_9_method_18_code 3 = .ok (.invokevirtual 42, 3) ∧ 3 + 3 = 6 := ⟨by decide +kernel, rfl⟩
theorem dc_M_sets_6 : decode prog_9_method_18_code 6 = .ok (.istore 5, 2) ∧ 6 + 2 = 8 := ⟨by decide +kernel, rfl⟩
theorem dc_M_sets_8 : decode prog_9_method_18_code 8 = .ok (.iload_n 3, 1) ∧ 8 + 1 = 9 := ⟨by decide +kernel, rfl⟩
theorem dc_M_sets_9 : decode prog_9_method_18_code 9 = .ok (.iload 4, 2) ∧ 9 + 2 = 11 := ⟨by decide +kernel, rfl⟩
theorem dc_M_sets_11 : decode prog_9_method_18_code 11 = .ok (.if_icmp .ne 11, 3) ∧ ((11 : Nat) : Int) + (11) = ((22 : Nat) : Int) ∧ 11 + 3 = 14 := ⟨by decide +kernel, by decide, rfl⟩
theorem dc_M_sets_14 : decode prog_9_method_18_code 14 = .ok (.iload 5, 2) ∧ 14 + 2 = 16 := ⟨by decide +kernel, rfl⟩
theorem dc_M_sets_16 : decode prog_9_method_18_code 16 = .ok (.ifCond .ne 6, 3) ∧ ((16 : Nat) : Int) + (6) = ((22 : Nat) : Int) ∧ 16 + 3 = 19 := ⟨by decide +kernel, by decide, rfl⟩
theorem dc_M_sets_19 : decode prog_9_method_18_code 19 = .ok (.ldc 30, 2) ∧ 19 + 2 = 21 := ⟨by decide +kernel, rfl⟩
theorem dc_M_sets_21 : decode prog_9_method_18_code 21 = .ok (.ireturn, 1) := by decide +kernel
theorem dc_M_sets_22 : decode prog_9_method_18_code 22 = .ok (.iload_n 3, 1) ∧ 22 + 1 = 23 := ⟨by decide +kernel, rfl⟩
theorem dc_M_sets_23 : decode prog_9_method_18_code 23 = .ok (.iload 4, 2) ∧ 23 + 2 = 25 := ⟨by decide +kernel, rfl⟩
theorem dc_M_sets_25 : decode prog_9_method_18_code 25 = .ok (.if_icmp .eq 22, 3) ∧ ((25 : Nat) : Int) + (22) = ((47 : Nat) : Int) ∧ 25 + 3 = 28 := ⟨by decide +kernel, by decide, rfl⟩
theorem dc_M_sets_28 : decode prog_9_method_18_code 28 = .ok (.iload 5, 2) ∧ 28 + 2 = 30 := ⟨by decide +kernel, rfl⟩
theorem dc_M_sets_30 : decode prog_9_method_18_code 30 = .ok (.ifCond .ne 17, 3) ∧ ((30 : Nat) : Int) + (17) = ((47 : Nat) : Int) ∧ 30 + 3 = 33 := ⟨by decide +kernel, by decide, rfl⟩
theorem dc_M_sets_33 : decode prog_9_method_18_code 33 = .ok (.aload_n 0, 1) ∧ 33 + 1 = 34 := ⟨by decide +kernel, rfl⟩
theorem dc_M_sets_34 : decode prog_9_method_18_code 34 = .ok (.getfield 7, 3) ∧ 34 + 3 = 37 := ⟨by decide +kernel, rfl⟩
theorem dc_M_sets_37 : decode prog_9_method_18_code 37 = .ok (.iload_n 1, 1) ∧ 37 + 1 = 38 := ⟨by decide +kernel, rfl⟩
theorem dc_M_sets_38 : decode prog_9_method_18_code 38 = .ok (.iaload, 1) ∧ 38 + 1 = 39 := ⟨by decide +kernel, rfl⟩
theorem dc_M_sets_39 : decode prog_9_method_18_code 39 = .ok (.bipush 10, 2) ∧ 39 + 2 = 41 := ⟨by decide +kernel, rfl⟩
theorem dc_M_sets_41 : decode prog_9_method_18_code 41 = .ok (.if_icmp .ne 6, 3) ∧ ((41 : Nat) : Int) + (6) = ((47 : Nat) : Int) ∧ 41 + 3 = 44 := ⟨by decide +kernel, by decide, rfl⟩
theorem dc_M_sets_44 : decode prog_9_method_18_code 44 = .ok (.ldc 46, 2) ∧ 44 + 2 = 46 := ⟨by decide +kernel, rfl⟩
theorem dc_M_sets_46 : decode prog_9_method_18_code 46 = .ok (.ireturn, 1) := by decide +kernel
theorem dc_M_sets_47 : decode prog_9_method_18_code 47 = .ok (.aload_n 0, 1) ∧ 47 + 1 = 48 := ⟨by decide +kernel, rfl⟩
theorem dc_M_sets_48 : decode prog_9_method_18_code 48 = .ok (.invokevirtual 47, 3) ∧ 48 + 3 = 51 := ⟨by decide +kernel, rfl⟩
theorem dc_M_sets_51 : decode prog_9_method_18_code 51 = .ok (.iload 5, 2) ∧ 51 + 2 = 53 := ⟨by decide +kernel, rfl⟩
theorem dc_M_sets_53 : decode prog_9_method_18_code 53 = .ok (.ifCond .eq 19, 3) ∧ ((53 : Nat) : Int) + (19) = ((72 : Nat) : Int) ∧ 53 + 3 = 56 := ⟨by decide +kernel, by decide, rfl⟩
theorem dc_M_sets_56 : decode prog_9_method_18_code 56 = .ok (.aload_n 0, 1) ∧ 56 + 1 = 57 := ⟨by decide +kernel, rfl⟩
theorem dc_M_sets_57 : decode prog_9_method_18_code 57 = .ok (.iload_n 1, 1) ∧ 57 + 1 = 58 := ⟨by decide +kernel, rfl⟩
theorem dc_M_sets_58 : decode prog_9_method_18_code 58 = .ok (.aload_n 0, 1) ∧ 58 + 1 = 59 := ⟨by decide +kernel, rfl⟩
theorem dc_M_sets_59 : decode prog_9_method_18_code 59 = .ok (.iload_n 1, 1) ∧ 59 + 1 = 60 := ⟨by decide +kernel, rfl⟩
theorem dc_M_sets_60 : decode prog_9_method_18_code 60 = .ok (.iload_n 2, 1) ∧ 60 + 1 = 61 := ⟨by decide +kernel, rfl⟩
theorem dc_M_sets_61 : decode prog_9_method_18_code 61 = .ok (.invokevirtual 39, 3) ∧ 61 + 3 = 64 := ⟨by decide +kernel, rfl⟩
theorem dc_M_sets_64 : decode prog_9_method_18_code 64 = .ok (.iconst 1, 1) ∧ 64 + 1 = 65 := ⟨by decide +kernel, rfl⟩
theorem dc_M_sets_65 : decode prog_9_method_18_code 65 = .ok (.isub, 1) ∧ 65 + 1 = 66 := ⟨by decide +kernel, rfl⟩
theorem dc_M_sets_66 : decode prog_9_method_18_code 66 = .ok (.invokevirtual 50, 3) ∧ 66 + 3 = 69 := ⟨by decide +kernel, rfl⟩
theorem dc_M_sets_69 : decode prog_9_method_18_code 69 = .ok (.goto 5, 3) ∧ ((69 : Nat) : Int) + (5) = ((74 : Nat) : Int) := ⟨by decide +kernel, by decide⟩
theorem dc_M_sets_72 : decode prog_9_method_18_code 72 = .ok (.iload 4, 2) ∧ 72 + 2 = 74 := ⟨by decide +kernel, rfl⟩
theorem dc_M_sets_74 : decode prog_9_method_18_code 74 = .ok (.istore 6, 2) ∧ 74 + 2 = 76 := ⟨by decide +kernel, rfl⟩
theorem dc_M_sets_76 : decode prog_9_method_18_code 76 = .ok (.iload_n 3, 1) ∧ 76 + 1 = 77 := ⟨by decide +kernel, rfl⟩
theorem dc_M_sets_77 : decode prog_9_method_18_code 77 = .ok (.iload 4, 2) ∧ 77 + 2 = 79 := ⟨by decide +kernel, rfl⟩
theorem dc_M_sets_79 : decode prog_9_method_18_code 79 = .ok (.if_icmp .ne 12, 3) ∧ ((79 : Nat) : Int) + (12) = ((91 : Nat) : Int) ∧ 79 + 3 = 82 := ⟨by decide +kernel, by decide, rfl⟩
theorem dc_M_sets_82 : decode prog_9_method_18_code 82 = .ok (.aload_n 0, 1) ∧ 82 + 1 = 83 := ⟨by decide +kernel, rfl⟩
theorem dc_M_sets_83 : decode prog_9_method_18_code 83 = .ok (.iload_n 1, 1) ∧ 83 + 1 = 84 := ⟨by decide +kernel, rfl⟩
theorem dc_M_sets_84 : decode prog_9_method_18_code 84 = .ok (.iload_n 2, 1) ∧ 84 + 1 = 85 := ⟨by decide +kernel, rfl⟩
theorem dc_M_sets_85 : decode prog_9_method_18_code 85 = .ok (.invokevirtual 53, 3) ∧ 85 + 3 = 88 := ⟨by decide +kernel, rfl⟩
theorem dc_M_sets_88 : decode prog_9_method_18_code 88 = .ok (.goto 10, 3) ∧ ((88 : Nat) : Int) + (10) = ((98 : Nat) : Int) := ⟨by decide +kernel, by decide⟩
theorem dc_M_sets_91 : decode prog_9_method_18_code 91 = .ok (.aload_n 0, 1) ∧ 91 + 1 = 92 := ⟨by decide +kernel, rfl⟩
theorem dc_M_sets_92 : decode prog_9_method_18_code 92 = .ok (.iload_n 1, 1) ∧ 92 + 1 = 93 := ⟨by decide +kernel, rfl⟩
theorem dc_M_sets_93 : decode prog_9_method_18_code 93 = .ok (.iload_n 2, 1) ∧ 93 + 1 = 94 := ⟨by decide +kernel, rfl⟩
theorem dc_M_sets_94 : decode prog_9_method_18_code 94 = .ok (.iload_n 3, 1) ∧ 94 + 1 = 95 := ⟨by decide +kernel, rfl⟩
theorem dc_M_sets_95 : decode prog_9_method_18_code 95 = .ok (.invokevirtual 57, 3) ∧ 95 + 3 = 98 := ⟨by decide +kernel, rfl⟩
theorem dc_M_sets_98 : decode prog_9_method_18_code 98 = .ok (.iload 6, 2) ∧ 98 + 2 = 100 := ⟨by decide +kernel, rfl⟩
theorem dc_M_sets_100 : decode prog_9_method_18_code 100 = .ok (.ireturn, 1) := by decide +kernel
theorem dc_M_has_0 : decode prog_9_method_15_code 0 = .ok (.aload_n 0, 1) ∧ 0 + 1 = 1 := ⟨by decide +kernel, rfl⟩
theorem dc_M_has_1 : decode prog_9_method_15_code 1 = .ok (.iload_n 1, 1) ∧ 1 + 1 = 2 := ⟨by decide +kernel, rfl⟩
theorem dc_M_has_2 : decode prog_9_method_15_code 2 = .ok (.iload_n 2, 1) ∧ 2 + 1 = 3 := ⟨by decide +kernel, rfl⟩
theorem dc_M_has_3 : decode prog_9_method_15_code 3 = .ok (.invokevirtual 39, 3) ∧ 3 + 3 = 6 := ⟨by decide +kernel, rfl⟩
theorem dc_M_has_6 : decode prog_9_method_15_code 6 = .ok (.istore_n 3, 1) ∧ 6 + 1 = 7 := ⟨by decide +kernel, rfl⟩
theorem dc_M_has_7 : decode prog_9_method_15_code 7 = .ok (.iload_n 3, 1) ∧ 7 + 1 = 8 := ⟨by decide +kernel, rfl⟩
theorem dc_M_has_8 : decode prog_9_method_15_code 8 = .ok (.ifCond .le 19, 3) ∧ ((8 : Nat) : Int) + (19) = ((27 : Nat) : Int) ∧ 8 + 3 = 11 := ⟨by decide +kernel, by decide, rfl⟩
theorem dc_M_has_11 : decode prog_9_method_15_code 11 = .ok (.aload_n 0, 1) ∧ 11 + 1 = 12 := ⟨by decide +kernel, rfl⟩
theorem dc_M_has_12 : decode prog_9_method_15_code 12 = .ok (.iload_n 1, 1) ∧ 12 + 1 = 13 := ⟨by decide +kernel, rfl⟩
theorem dc_M_has_13 : decode prog_9_method_15_code 13 = .ok (.iload_n 3, 1) ∧ 13 + 1 = 14 := ⟨by decide +kernel, rfl⟩
theorem dc_M_has_14 : decode prog_9_method_15_code 14 = .ok (.iconst 1, 1) ∧ 14 + 1 = 15 := ⟨by decide +kernel, rfl⟩
theorem dc_M_has_15 : decode prog_9_method_15_code 15 = .ok (.isub, 1) ∧ 15 + 1 = 16 := ⟨by decide +kernel, rfl⟩
theorem dc_M_has_16 : decode prog_9_method_15_code 16 = .ok (.invokevirtual 35, 3) ∧ 16 + 3 = 19 := ⟨by decide +kernel, rfl⟩
theorem dc_M_has_19 : decode prog_9_method_15_code 19 = .ok (.iload_n 2, 1) ∧ 19 + 1 = 20 := ⟨by decide +kernel, rfl⟩
theorem dc_M_has_20 : decode prog_9_method_15_code 20 = .ok (.if_icmp .ne 7, 3) ∧ ((20 : Nat) : Int) + (7) = ((27 : Nat) : Int) ∧ 20 + 3 = 23 := ⟨by decide +kernel, by decide, rfl⟩
theorem dc_M_has_23 : decode prog_9_method_15_code 23 = .ok (.iconst 1, 1) ∧ 23 + 1 = 24 := ⟨by decide +kernel, rfl⟩
theorem dc_M_has_24 : decode prog_9_method_15_code 24 = .ok (.goto 4, 3) ∧ ((24 : Nat) : Int) + (4) = ((28 : Nat) : Int) := ⟨by decide +kernel, by decide⟩
theorem dc_M_has_27 : decode prog_9_method_15_code 27 = .ok (.iconst 0, 1) ∧ 27 + 1 = 28 := ⟨by decide +kernel, rfl⟩
theorem dc_M_has_28 : decode prog_9_method_15_code 28 = .ok (.ireturn, 1) := by decide +kernel
theorem dc_M_upTo_0 : decode prog_9_method_14_code 0 = .ok (.iconst 0, 1) ∧ 0 + 1 = 1 := ⟨by decide +kernel, rfl⟩
theorem dc_M_upTo_1 : decode prog_9_method_14_code 1 = .ok (.istore_n 3, 1) ∧ 1 + 1 = 2 := ⟨by decide +kernel, rfl⟩
theorem dc_M_upTo_2 : decode prog_9_method_14_code 2 = .ok (.iload_n 3, 1) ∧ 2 + 1 = 3 := ⟨by decide +kernel, rfl⟩
theorem dc_M_upTo_3 : decode prog_9_method_14_code 3 = .ok (.aload_n 0, 1) ∧ 3 + 1 = 4 := ⟨by decide +kernel, rfl⟩
theorem dc_M_upTo_4 : decode prog_9_method_14_code 4 = .ok (.getfield 7, 3) ∧ 4 + 3 = 7 := ⟨by decide +kernel, rfl⟩
theorem dc_M_upTo_7 : decode prog_9_method_14_code 7 = .ok (.iload_n 1, 1) ∧ 7 + 1 = 8 := ⟨by decide +kernel, rfl⟩
theorem dc_M_upTo_8 : decode prog_9_method_14_code 8 = .ok (.iaload, 1) ∧ 8 + 1 = 9 := ⟨by decide +kernel, rfl⟩
theorem dc_M_upTo_9 : decode prog_9_method_14_code 9 = .ok (.if_icmp .ge 19, 3) ∧ ((9 : Nat) : Int) + (19) = ((28 : Nat) : Int) ∧ 9 + 3 = 12 := ⟨by decide +kernel, by decide, rfl⟩
theorem dc_M_upTo_12 : decode prog_9_method_14_code 12 = .ok (.aload_n 0, 1) ∧ 12 + 1 = 13 := ⟨by decide +kernel, rfl⟩
theorem dc_M_upTo_13 : decode prog_9_method_14_code 13 = .ok (.iload_n 1, 1) ∧ 13 + 1 = 14 := ⟨by decide +kernel, rfl⟩
theorem dc_M_upTo_14 : decode prog_9_method_14_code 14 = .ok (.iload_n 3, 1) ∧ 14 + 1 = 15 := ⟨by decide +kernel, rfl⟩
theorem dc_M_upTo_15 : decode prog_9_method_14_code 15 = .ok (.invokevirtual 35, 3) ∧ 15 + 3 = 18 := ⟨by decide +kernel, rfl⟩
theorem dc_M_upTo_18 : decode prog_9_method_14_code 18 = .ok (.iload_n 2, 1) ∧ 18 + 1 = 19 := ⟨by decide +kernel, rfl⟩
theorem dc_M_upTo_19 : decode prog_9_method_14_code 19 = .ok (.if_icmp .gt 9, 3) ∧ ((19 : Nat) : Int) + (9) = ((28 : Nat) : Int) ∧ 19 + 3 = 22 := ⟨by decide +kernel, by decide, rfl⟩
theorem dc_M_upTo_22 : decode prog_9_method_14_code 22 = .ok (.iinc 3 1, 3) ∧ 22 + 3 = 25 := ⟨by decide +kernel, rfl⟩
theorem dc_M_upTo_25 : decode prog_9_method_14_code 25 = .ok (.goto (-23), 3) ∧ ((25 : Nat) : Int) + (-23) = ((2 : Nat) : Int) := ⟨by decide +kernel, by decide⟩
theorem dc_M_upTo_28 : decode prog_9_method_14_code 28 = .ok (.iload_n 3, 1) ∧ 28 + 1 = 29 := ⟨by decide +kernel, rfl⟩
theorem dc_M_upTo_29 : decode prog_9_method_14_code 29 = .ok (.ireturn, 1) := by decide +kernel
theorem dc_M_placeAt_0 : decode prog_9_method_12_code 0 = .ok (.aload_n 0, 1) ∧ 0 + 1 = 1 := ⟨by decide +kernel, rfl⟩
theorem dc_M_placeAt_1 : decode prog_9_method_12_code 1 = .ok (.getfield 7, 3) ∧ 1 + 3 = 4 := ⟨by decide +kernel, rfl⟩
theorem dc_M_placeAt_4 : decode prog_9_method_12_code 4 = .ok (.iload_n 1, 1) ∧ 4 + 1 = 5 := ⟨by decide +kernel, rfl⟩
theorem dc_M_placeAt_5 : decode prog_9_method_12_code 5 = .ok (.iconst 1, 1) ∧ 5 + 1 = 6 := ⟨by decide +kernel, rfl⟩
theorem dc_M_placeAt_6 : decode prog_9_method_12_code 6 = .ok (.iadd, 1) ∧ 6 + 1 = 7 := ⟨by decide +kernel, rfl⟩
theorem dc_M_placeAt_7 : decode prog_9_method_12_code 7 = .ok (.iconst 2, 1) ∧ 7 + 1 = 8 := ⟨by decide +kernel, rfl⟩
theorem dc_M_placeAt_8 : decode prog_9_method_12_code 8 = .ok (.iload_n 2, 1) ∧ 8 + 1 = 9 := ⟨by decide +kernel, rfl⟩
theorem dc_M_placeAt_9 : decode prog_9_method_12_code 9 = .ok (.imul, 1) ∧ 9 + 1 = 10 := ⟨by decide +kernel, rfl⟩
theorem dc_M_placeAt_10 : decode prog_9_method_12_code 10 = .ok (.iadd, 1) ∧ 10 + 1 = 11 := ⟨by decide +kernel, rfl⟩
theorem dc_M_placeAt_11 : decode prog_9_method_12_code 11 = .ok (.iaload, 1) ∧ 11 + 1 = 12 := ⟨by decide +kernel, rfl⟩
theorem dc_M_placeAt_12 : decode prog_9_method_12_code 12 = .ok (.ireturn, 1) := by decide +kernel
theorem dc_M_valueAt_0 : decode prog_9_method_13_code 0 = .ok (.aload_n 0, 1) ∧ 0 + 1 = 1 := ⟨by decide +kernel, rfl⟩
theorem dc_M_valueAt_1 : decode prog_9_method_13_code 1 = .ok (.getfield 7, 3) ∧ 1 + 3 = 4 := ⟨by decide +kernel, rfl⟩
theorem dc_M_valueAt_4 : decode prog_9_method_13_code 4 = .ok (.iload_n 1, 1) ∧ 4 + 1 = 5 := ⟨by decide +kernel, rfl⟩
theorem dc_M_valueAt_5 : decode prog_9_method_13_code 5 = .ok (.iconst 2, 1) ∧ 5 + 1 = 6 := ⟨by decide +kernel, rfl⟩
theorem dc_M_valueAt_6 : decode prog_9_method_13_code 6 = .ok (.iadd, 1) ∧ 6 + 1 = 7 := ⟨by decide +kernel, rfl⟩
theorem dc_M_valueAt_7 : decode prog_9_method_13_code 7 = .ok (.iconst 2, 1) ∧ 7 + 1 = 8 := ⟨by decide +kernel, rfl⟩
theorem dc_M_valueAt_8 : decode prog_9_method_13_code 8 = .ok (.iload_n 2, 1) ∧ 8 + 1 = 9 := ⟨by decide +kernel, rfl⟩
theorem dc_M_valueAt_9 : decode prog_9_method_13_code 9 = .ok (.imul, 1) ∧ 9 + 1 = 10 := ⟨by decide +kernel, rfl⟩
theorem dc_M_valueAt_10 : decode prog_9_method_13_code 10 = .ok (.iadd, 1) ∧ 10 + 1 = 11 := ⟨by decide +kernel, rfl⟩
theorem dc_M_valueAt_11 : decode prog_9_method_13_code 11 = .ok (.iaload, 1) ∧ 11 + 1 = 12 := ⟨by decide +kernel, rfl⟩
theorem dc_M_valueAt_12 : decode prog_9_method_13_code 12 = .ok (.ireturn, 1) := by decide +kernel
theorem dc_M_removes_0 : decode prog_9_method_17_code 0 = .ok (.aload_n 0, 1) ∧ 0 + 1 = 1 := ⟨by decide +kernel, rfl⟩
theorem dc_M_removes_1 : decode prog_9_method_17_code 1 = .ok (.iload_n 1, 1) ∧ 1 + 1 = 2 := ⟨by decide +kernel, rfl⟩
theorem dc_M_removes_2 : decode prog_9_method_17_code 2 = .ok (.iload_n 2, 1) ∧ 2 + 1 = 3 := ⟨by decide +kernel, rfl⟩
theorem dc_M_removes_3 : decode prog_9_method_17_code 3 = .ok (.invokevirtual 39, 3) ∧ 3 + 3 = 6 := ⟨by decide +kernel, rfl⟩
theorem dc_M_removes_6 : decode prog_9_method_17_code 6 = .ok (.iconst 1, 1) ∧ 6 + 1 = 7 := ⟨by decide +kernel, rfl⟩
theorem dc_M_removes_7 : decode prog_9_method_17_code 7 = .ok (.isub, 1) ∧ 7 + 1 = 8 := ⟨by decide +kernel, rfl⟩
theorem dc_M_removes_8 : decode prog_9_method_17_code 8 = .ok (.istore_n 3, 1) ∧ 8 + 1 = 9 := ⟨by decide +kernel, rfl⟩
theorem dc_M_removes_9 : decode prog_9_method_17_code 9 = .ok (.aload_n 0, 1) ∧ 9 + 1 = 10 := ⟨by decide +kernel, rfl⟩
theorem dc_M_removes_10 : decode prog_9_method_17_code 10 = .ok (.getfield 7, 3) ∧ 10 + 3 = 13 := ⟨by decide +kernel, rfl⟩
theorem dc_M_removes_13 : decode prog_9_method_17_code 13 = .ok (.iload_n 1, 1) ∧ 13 + 1 = 14 := ⟨by decide +kernel, rfl⟩
theorem dc_M_removes_14 : decode prog_9_method_17_code 14 = .ok (.dup2, 1) ∧ 14 + 1 = 15 := ⟨by decide +kernel, rfl⟩
theorem dc_M_removes_15 : decode prog_9_method_17_code 15 = .ok (.iaload, 1) ∧ 15 + 1 = 16 := ⟨by decide +kernel, rfl⟩
theorem dc_M_removes_16 : decode prog_9_method_17_code 16 = .ok (.iconst 1, 1) ∧ 16 + 1 = 17 := ⟨by decide +kernel, rfl⟩
theorem dc_M_removes_17 : decode prog_9_method_17_code 17 = .ok (.isub, 1) ∧ 17 + 1 = 18 := ⟨by decide +kernel, rfl⟩
theorem dc_M_removes_18 : decode prog_9_method_17_code 18 = .ok (.iastore, 1) ∧ 18 + 1 = 19 := ⟨by decide +kernel, rfl⟩
theorem dc_M_removes_19 : decode prog_9_method_17_code 19 = .ok (.iconst 2, 1) ∧ 19 + 1 = 20 := ⟨by decide +kernel, rfl⟩
theorem dc_M_removes_20 : decode prog_9_method_17_code 20 = .ok (.iload_n 3, 1) ∧ 20 + 1 = 21 := ⟨by decide +kernel, rfl⟩
theorem dc_M_removes_21 : decode prog_9_method_17_code 21 = .ok (.imul, 1) ∧ 21 + 1 = 22 := ⟨by decide +kernel, rfl⟩
theorem dc_M_removes_22 : decode prog_9_method_17_code 22 = .ok (.iconst 1, 1) ∧ 22 + 1 = 23 := ⟨by decide +kernel, rfl⟩
theorem dc_M_removes_23 : decode prog_9_method_17_code 23 = .ok (.iadd, 1) ∧ 23 + 1 = 24 := ⟨by decide +kernel, rfl⟩
theorem dc_M_removes_24 : decode prog_9_method_17_code 24 = .ok (.istore 4, 2) ∧ 24 + 2 = 26 := ⟨by decide +kernel, rfl⟩
theorem dc_M_removes_26 : decode prog_9_method_17_code 26 = .ok (.iload 4, 2) ∧ 26 + 2 = 28 := ⟨by decide +kernel, rfl⟩
theorem dc_M_removes_28 : decode prog_9_method_17_code 28 = .ok (.iconst 2, 1) ∧ 28 + 1 = 29 := ⟨by decide +kernel, rfl⟩
theorem dc_M_removes_29 : decode prog_9_method_17_code 29 = .ok (.aload_n 0, 1) ∧ 29 + 1 = 30 := ⟨by decide +kernel, rfl⟩
theorem dc_M_removes_30 : decode prog_9_method_17_code 30 = .ok (.getfield 7, 3) ∧ 30 + 3 = 33 := ⟨by decide +kernel, rfl⟩
theorem dc_M_removes_33 : decode prog_9_method_17_code 33 = .ok (.iload_n 1, 1) ∧ 33 + 1 = 34 := ⟨by decide +kernel, rfl⟩
theorem dc_M_removes_34 : decode prog_9_method_17_code 34 = .ok (.iaload, 1) ∧ 34 + 1 = 35 := ⟨by decide +kernel, rfl⟩
theorem dc_M_removes_35 : decode prog_9_method_17_code 35 = .ok (.imul, 1) ∧ 35 + 1 = 36 := ⟨by decide +kernel, rfl⟩
theorem dc_M_removes_36 : decode prog_9_method_17_code 36 = .ok (.if_icmp .gt 29, 3) ∧ ((36 : Nat) : Int) + (29) = ((65 : Nat) : Int) ∧ 36 + 3 = 39 := ⟨by decide +kernel, by decide, rfl⟩
theorem dc_M_removes_39 : decode prog_9_method_17_code 39 = .ok (.aload_n 0, 1) ∧ 39 + 1 = 40 := ⟨by decide +kernel, rfl⟩
theorem dc_M_removes_40 : decode prog_9_method_17_code 40 = .ok (.getfield 7, 3) ∧ 40 + 3 = 43 := ⟨by decide +kernel, rfl⟩
theorem dc_M_removes_43 : decode prog_9_method_17_code 43 = .ok (.iload_n 1, 1) ∧ 43 + 1 = 44 := ⟨by decide +kernel, rfl⟩
theorem dc_M_removes_44 : decode prog_9_method_17_code 44 = .ok (.iload 4, 2) ∧ 44 + 2 = 46 := ⟨by decide +kernel, rfl⟩
theorem dc_M_removes_46 : decode prog_9_method_17_code 46 = .ok (.iadd, 1) ∧ 46 + 1 = 47 := ⟨by decide +kernel, rfl⟩
theorem dc_M_removes_47 : decode prog_9_method_17_code 47 = .ok (.aload_n 0, 1) ∧ 47 + 1 = 48 := ⟨by decide +kernel, rfl⟩
theorem dc_M_removes_48 : decode prog_9_method_17_code 48 = .ok (.getfield 7, 3) ∧ 48 + 3 = 51 := ⟨by decide +kernel, rfl⟩
theorem dc_M_removes_51 : decode prog_9_method_17_code 51 = .ok (.iload_n 1, 1) ∧ 51 + 1 = 52 := ⟨by decide +kernel, rfl⟩
theorem dc_M_removes_52 : decode prog_9_method_17_code 52 = .ok (.iload 4, 2) ∧ 52 + 2 = 54 := ⟨by decide +kernel, rfl⟩
theorem dc_M_removes_54 : decode prog_9_method_17_code 54 = .ok (.iadd, 1) ∧ 54 + 1 = 55 := ⟨by decide +kernel, rfl⟩
theorem dc_M_removes_55 : decode prog_9_method_17_code 55 = .ok (.iconst 2, 1) ∧ 55 + 1 = 56 := ⟨by decide +kernel, rfl⟩
theorem dc_M_removes_56 : decode prog_9_method_17_code 56 = .ok (.iadd, 1) ∧ 56 + 1 = 57 := ⟨by decide +kernel, rfl⟩
theorem dc_M_removes_57 : decode prog_9_method_17_code 57 = .ok (.iaload, 1) ∧ 57 + 1 = 58 := ⟨by decide +kernel, rfl⟩
theorem dc_M_removes_58 : decode prog_9_method_17_code 58 = .ok (.iastore, 1) ∧ 58 + 1 = 59 := ⟨by decide +kernel, rfl⟩
theorem dc_M_removes_59 : decode prog_9_method_17_code 59 = .ok (.iinc 4 1, 3) ∧ 59 + 3 = 62 := ⟨by decide +kernel, rfl⟩
theorem dc_M_removes_62 : decode prog_9_method_17_code 62 = .ok (.goto (-36), 3) ∧ ((62 : Nat) : Int) + (-36) = ((26 : Nat) : Int) := ⟨by decide +kernel, by decide⟩
theorem dc_M_removes_65 : decode prog_9_method_17_code 65 = .ok (.return_, 1) := by decide +kernel
theorem dc_M_puts_0 : decode prog_9_method_16_code 0 = .ok (.aload_n 0, 1) ∧ 0 + 1 = 1 := ⟨by decide +kernel, rfl⟩
theorem dc_M_puts_1 : decode prog_9_method_16_code 1 = .ok (.iload_n 1, 1) ∧ 1 + 1 = 2 := ⟨by decide +kernel, rfl⟩
theorem dc_M_puts_2 : decode prog_9_method_16_code 2 = .ok (.iload_n 2, 1) ∧ 2 + 1 = 3 := ⟨by decide +kernel, rfl⟩
theorem dc_M_puts_3 : decode prog_9_method_16_code 3 = .ok (.invokevirtual 39, 3) ∧ 3 + 3 = 6 := ⟨by decide +kernel, rfl⟩
theorem dc_M_puts_6 : decode prog_9_method_16_code 6 = .ok (.istore 4, 2) ∧ 6 + 2 = 8 := ⟨by decide +kernel, rfl⟩
theorem dc_M_puts_8 : decode prog_9_method_16_code 8 = .ok (.aload_n 0, 1) ∧ 8 + 1 = 9 := ⟨by decide +kernel, rfl⟩
theorem dc_M_puts_9 : decode prog_9_method_16_code 9 = .ok (.iload_n 1, 1) ∧ 9 + 1 = 10 := ⟨by decide +kernel, rfl⟩
theorem dc_M_puts_10 : decode prog_9_method_16_code 10 = .ok (.iload_n 2, 1) ∧ 10 + 1 = 11 := ⟨by decide +kernel, rfl⟩
theorem dc_M_puts_11 : decode prog_9_method_16_code 11 = .ok (.invokevirtual 42, 3) ∧ 11 + 3 = 14 := ⟨by decide +kernel, rfl⟩
theorem dc_M_puts_14 : decode prog_9_method_16_code 14 = .ok (.ifCond .eq 9, 3) ∧ ((14 : Nat) : Int) + (9) = ((23 : Nat) : Int) ∧ 14 + 3 = 17 := ⟨by decide +kernel, by decide, rfl⟩
theorem dc_M_puts_17 : decode prog_9_method_16_code 17 = .ok (.iinc 4 (-1), 3) ∧ 17 + 3 = 20 := ⟨by decide +kernel, rfl⟩
theorem dc_M_puts_20 : decode prog_9_method_16_code 20 = .ok (.goto 62, 3) ∧ ((20 : Nat) : Int) + (62) = ((82 : Nat) : Int) := ⟨by decide +kernel, by decide⟩
theorem dc_M_puts_23 : decode prog_9_method_16_code 23 = .ok (.iconst 2, 1) ∧ 23 + 1 = 24 := ⟨by decide +kernel, rfl⟩
theorem dc_M_puts_24 : decode prog_9_method_16_code 24 = .ok (.aload_n 0, 1) ∧ 24 + 1 = 25 := ⟨by decide +kernel, rfl⟩
theorem dc_M_puts_25 : decode prog_9_method_16_code 25 = .ok (.getfield 7, 3) ∧ 25 + 3 = 28 := ⟨by decide +kernel, rfl⟩
theorem dc_M_puts_28 : decode prog_9_method_16_code 28 = .ok (.iload_n 1, 1) ∧ 28 + 1 = 29 := ⟨by decide +kernel, rfl⟩
theorem dc_M_puts_29 : decode prog_9_method_16_code 29 = .ok (.iaload, 1) ∧ 29 + 1 = 30 := ⟨by decide +kernel, rfl⟩
theorem dc_M_puts_30 : decode prog_9_method_16_code 30 = .ok (.imul, 1) ∧ 30 + 1 = 31 := ⟨by decide +kernel, rfl⟩
theorem dc_M_puts_31 : decode prog_9_method_16_code 31 = .ok (.iconst 2, 1) ∧ 31 + 1 = 32 := ⟨by decide +kernel, rfl⟩
theorem dc_M_puts_32 : decode prog_9_method_16_code 32 = .ok (.iadd, 1) ∧ 32 + 1 = 33 := ⟨by decide +kernel, rfl⟩
theorem dc_M_puts_33 : decode prog_9_method_16_code 33 = .ok (.istore 5, 2) ∧ 33 + 2 = 35 := ⟨by decide +kernel, rfl⟩
theorem dc_M_puts_35 : decode prog_9_method_16_code 35 = .ok (.iload 5, 2) ∧ 35 + 2 = 37 := ⟨by decide +kernel, rfl⟩
theorem dc_M_puts_37 : decode prog_9_method_16_code 37 = .ok (.iconst 2, 1) ∧ 37 + 1 = 38 := ⟨by decide +kernel, rfl⟩
theorem dc_M_puts_38 : decode prog_9_method_16_code 38 = .ok (.iload 4, 2) ∧ 38 + 2 = 40 := ⟨by decide +kernel, rfl⟩
theorem dc_M_puts_40 : decode prog_9_method_16_code 40 = .ok (.imul, 1) ∧ 40 + 1 = 41 := ⟨by decide +kernel, rfl⟩
theorem dc_M_puts_41 : decode prog_9_method_16_code 41 = .ok (.iconst 2, 1) ∧ 41 + 1 = 42 := ⟨by decide +kernel, rfl⟩
theorem dc_M_puts_42 : decode prog_9_method_16_code 42 = .ok (.iadd, 1) ∧ 42 + 1 = 43 := ⟨by decide +kernel, rfl⟩
theorem dc_M_puts_43 : decode prog_9_method_16_code 43 = .ok (.if_icmp .le 29, 3) ∧ ((43 : Nat) : Int) + (29) = ((72 : Nat) : Int) ∧ 43 + 3 = 46 := ⟨by decide +kernel, by decide, rfl⟩
theorem dc_M_puts_46 : decode prog_9_method_16_code 46 = .ok (.aload_n 0, 1) ∧ 46 + 1 = 47 := ⟨by decide +kernel, rfl⟩
theorem dc_M_puts_47 : decode prog_9_method_16_code 47 = .ok (.getfield 7, 3) ∧ 47 + 3 = 50 := ⟨by decide +kernel, rfl⟩
theorem dc_M_puts_50 : decode prog_9_method_16_code 50 = .ok (.iload_n 1, 1) ∧ 50 + 1 = 51 := ⟨by decide +kernel, rfl⟩
theorem dc_M_puts_51 : decode prog_9_method_16_code 51 = .ok (.iload 5, 2) ∧ 51 + 2 = 53 := ⟨by decide +kernel, rfl⟩
theorem dc_M_puts_53 : decode prog_9_method_16_code 53 = .ok (.iadd, 1) ∧ 53 + 1 = 54 := ⟨by decide +kernel, rfl⟩
theorem dc_M_puts_54 : decode prog_9_method_16_code 54 = .ok (.aload_n 0, 1) ∧ 54 + 1 = 55 := ⟨by decide +kernel, rfl⟩
theorem dc_M_puts_55 : decode prog_9_method_16_code 55 = .ok (.getfield 7, 3) ∧ 55 + 3 = 58 := ⟨by decide +kernel, rfl⟩
theorem dc_M_puts_58 : decode prog_9_method_16_code 58 = .ok (.iload_n 1, 1) ∧ 58 + 1 = 59 := ⟨by decide +kernel, rfl⟩
theorem dc_M_puts_59 : decode prog_9_method_16_code 59 = .ok (.iload 5, 2) ∧ 59 + 2 = 61 := ⟨by decide +kernel, rfl⟩
theorem dc_M_puts_61 : decode prog_9_method_16_code 61 = .ok (.iadd, 1) ∧ 61 + 1 = 62 := ⟨by decide +kernel, rfl⟩
theorem dc_M_puts_62 : decode prog_9_method_16_code 62 = .ok (.iconst 2, 1) ∧ 62 + 1 = 63 := ⟨by decide +kernel, rfl⟩
theorem dc_M_puts_63 : decode prog_9_method_16_code 63 = .ok (.isub, 1) ∧ 63 + 1 = 64 := ⟨by decide +kernel, rfl⟩
theorem dc_M_puts_64 : decode prog_9_method_16_code 64 = .ok (.iaload, 1) ∧ 64 + 1 = 65 := ⟨by decide +kernel, rfl⟩
theorem dc_M_puts_65 : decode prog_9_method_16_code 65 = .ok (.iastore, 1) ∧ 65 + 1 = 66 := ⟨by decide +kernel, rfl⟩
theorem dc_M_puts_66 : decode prog_9_method_16_code 66 = .ok (.iinc 5 (-1), 3) ∧ 66 + 3 = 69 := ⟨by decide +kernel, rfl⟩
theorem dc_M_puts_69 : decode prog_9_method_16_code 69 = .ok (.goto (-34), 3) ∧ ((69 : Nat) : Int) + (-34) = ((35 : Nat) : Int) := ⟨by decide +kernel, by decide⟩
theorem dc_M_puts_72 : decode prog_9_method_16_code 72 = .ok (.aload_n 0, 1) ∧ 72 + 1 = 73 := ⟨by decide +kernel, rfl⟩
theorem dc_M_puts_73 : decode prog_9_method_16_code 73 = .ok (.getfield 7, 3) ∧ 73 + 3 = 76 := ⟨by decide +kernel, rfl⟩
theorem dc_M_puts_76 : decode prog_9_method_16_code 76 = .ok (.iload_n 1, 1) ∧ 76 + 1 = 77 := ⟨by decide +kernel, rfl⟩
theorem dc_M_puts_77 : decode prog_9_method_16_code 77 = .ok (.dup2, 1) ∧ 77 + 1 = 78 := ⟨by decide +kernel, rfl⟩
theorem dc_M_puts_78 : decode prog_9_method_16_code 78 = .ok (.iaload, 1) ∧ 78 + 1 = 79 := ⟨by decide +kernel, rfl⟩
theorem dc_M_puts_79 : decode prog_9_method_16_code 79 = .ok (.iconst 1, 1) ∧ 79 + 1 = 80 := ⟨by decide +kernel, rfl⟩
theorem dc_M_puts_80 : decode prog_9_method_16_code 80 = .ok (.iadd, 1) ∧ 80 + 1 = 81 := ⟨by decide +kernel, rfl⟩
theorem dc_M_puts_81 : decode prog_9_method_16_code 81 = .ok (.iastore, 1) ∧ 81 + 1 = 82 := ⟨by decide +kernel, rfl⟩
theorem dc_M_puts_82 : decode prog_9_method_16_code 82 = .ok (.aload_n 0, 1) ∧ 82 + 1 = 83 := ⟨by decide +kernel, rfl⟩
theorem dc_M_puts_83 : decode prog_9_method_16_code 83 = .ok (.getfield 7, 3) ∧ 83 + 3 = 86 := ⟨by decide +kernel, rfl⟩
theorem dc_M_puts_86 : decode prog_9_method_16_code 86 = .ok (.iload_n 1, 1) ∧ 86 + 1 = 87 := ⟨by decide +kernel, rfl⟩
theorem dc_M_puts_87 : decode prog_9_method_16_code 87 = .ok (.iconst 1, 1) ∧ 87 + 1 = 88 := ⟨by decide +kernel, rfl⟩
theorem dc_M_puts_88 : decode prog_9_method_16_code 88 = .ok (.iadd, 1) ∧ 88 + 1 = 89 := ⟨by decide +kernel, rfl⟩
theorem dc_M_puts_89 : decode prog_9_method_16_code 89 = .ok (.iconst 2, 1) ∧ 89 + 1 = 90 := ⟨by decide +kernel, rfl⟩
theorem dc_M_puts_90 : decode prog_9_method_16_code 90 = .ok (.iload 4, 2) ∧ 90 + 2 = 92 := ⟨by decide +kernel, rfl⟩
theorem dc_M_puts_92 : decode prog_9_method_16_code 92 = .ok (.imul, 1) ∧ 92 + 1 = 93 := ⟨by decide +kernel, rfl⟩
theorem dc_M_puts_93 : decode prog_9_method_16_code 93 = .ok (.iadd, 1) ∧ 93 + 1 = 94 := ⟨by decide +kernel, rfl⟩
theorem dc_M_puts_94 : decode prog_9_method_16_code 94 = .ok (.iload_n 2, 1) ∧ 94 + 1 = 95 := ⟨by decide +kernel, rfl⟩
theorem dc_M_puts_95 : decode prog_9_method_16_code 95 = .ok (.iastore, 1) ∧ 95 + 1 = 96 := ⟨by decide +kernel, rfl⟩
theorem dc_M_puts_96 : decode prog_9_method_16_code 96 = .ok (.aload_n 0, 1) ∧ 96 + 1 = 97 := ⟨by decide +kernel, rfl⟩
theorem dc_M_puts_97 : decode prog_9_method_16_code 97 = .ok (.getfield 7, 3) ∧ 97 + 3 = 100 := ⟨by decide +kernel, rfl⟩
theorem dc_M_puts_100 : decode prog_9_method_16_code 100 = .ok (.iload_n 1, 1) ∧ 100 + 1 = 101 := ⟨by decide +kernel, rfl⟩
theorem dc_M_puts_101 : decode prog_9_method_16_code 101 = .ok (.iconst 2, 1) ∧ 101 + 1 = 102 := ⟨by decide +kernel, rfl⟩
theorem dc_M_puts_102 : decode prog_9_method_16_code 102 = .ok (.iadd, 1) ∧ 102 + 1 = 103 := ⟨by decide +kernel, rfl⟩
theorem dc_M_puts_103 : decode prog_9_method_16_code 103 = .ok (.iconst 2, 1) ∧ 103 + 1 = 104 := ⟨by decide +kernel, rfl⟩
theorem dc_M_puts_104 : decode prog_9_method_16_code 104 = .ok (.iload 4, 2) ∧ 104 + 2 = 106 := ⟨by decide +kernel, rfl⟩
theorem dc_M_puts_106 : decode prog_9_method_16_code 106 = .ok (.imul, 1) ∧ 106 + 1 = 107 := ⟨by decide +kernel, rfl⟩
theorem dc_M_puts_107 : decode prog_9_method_16_code 107 = .ok (.iadd, 1) ∧ 107 + 1 = 108 := ⟨by decide +kernel, rfl⟩
theorem dc_M_puts_108 : decode prog_9_method_16_code 108 = .ok (.iload_n 3, 1) ∧ 108 + 1 = 109 := ⟨by decide +kernel, rfl⟩
theorem dc_M_puts_109 : decode prog_9_method_16_code 109 = .ok (.iastore, 1) ∧ 109 + 1 = 110 := ⟨by decide +kernel, rfl⟩
theorem dc_M_puts_110 : decode prog_9_method_16_code 110 = .ok (.return_, 1) := by decide +kernel
theorem dc_M_setComb_0 : decode prog_9_method_22_code 0 = .ok (.iload_n 1, 1) ∧ 0 + 1 = 1 := ⟨by decide +kernel, rfl⟩
theorem dc_M_setComb_1 : decode prog_9_method_22_code 1 = .ok (.invokestatic 65, 3) ∧ 1 + 3 = 4 := ⟨by decide +kernel, rfl⟩
theorem dc_M_setComb_4 : decode prog_9_method_22_code 4 = .ok (.ifCond .eq 27, 3) ∧ ((4 : Nat) : Int) + (27) = ((31 : Nat) : Int) ∧ 4 + 3 = 7 := ⟨by decide +kernel, by decide, rfl⟩
theorem dc_M_setComb_7 : decode prog_9_method_22_code 7 = .ok (.iload_n 2, 1) ∧ 7 + 1 = 8 := ⟨by decide +kernel, rfl⟩
theorem dc_M_setComb_8 : decode prog_9_method_22_code 8 = .ok (.bipush (-99), 2) ∧ 8 + 2 = 10 := ⟨by decide +kernel, rfl⟩
theorem dc_M_setComb_10 : decode prog_9_method_22_code 10 = .ok (.bipush 100, 2) ∧ 10 + 2 = 12 := ⟨by decide +kernel, rfl⟩
theorem dc_M_setComb_12 : decode prog_9_method_22_code 12 = .ok (.invokestatic 31, 3) ∧ 12 + 3 = 15 := ⟨by decide +kernel, rfl⟩
theorem dc_M_setComb_15 : decode prog_9_method_22_code 15 = .ok (.ifCond .eq 16, 3) ∧ ((15 : Nat) : Int) + (16) = ((31 : Nat) : Int) ∧ 15 + 3 = 18 := ⟨by decide +kernel, by decide, rfl⟩
theorem dc_M_setComb_18 : decode prog_9_method_22_code 18 = .ok (.aload_n 0, 1) ∧ 18 + 1 = 19 := ⟨by decide +kernel, rfl⟩
theorem dc_M_setComb_19 : decode prog_9_method_22_code 19 = .ok (.bipush 42, 2) ∧ 19 + 2 = 21 := ⟨by decide +kernel, rfl⟩
theorem dc_M_setComb_21 : decode prog_9_method_22_code 21 = .ok (.iload_n 1, 1) ∧ 21 + 1 = 22 := ⟨by decide +kernel, rfl⟩
theorem dc_M_setComb_22 : decode prog_9_method_22_code 22 = .ok (.iload_n 2, 1) ∧ 22 + 1 = 23 := ⟨by decide +kernel, rfl⟩
theorem dc_M_setComb_23 : decode prog_9_method_22_code 23 = .ok (.bipush 100, 2) ∧ 23 + 2 = 25 := ⟨by decide +kernel, rfl⟩
theorem dc_M_setComb_25 : decode prog_9_method_22_code 25 = .ok (.invokevirtual 69, 3) ∧ 25 + 3 = 28 := ⟨by decide +kernel, rfl⟩
theorem dc_M_setComb_28 : decode prog_9_method_22_code 28 = .ok (.goto 5, 3) ∧ ((28 : Nat) : Int) + (5) = ((33 : Nat) : Int) := ⟨by decide +kernel, by decide⟩
theorem dc_M_setComb_31 : decode prog_9_method_22_code 31 = .ok (.ldc 64, 2) ∧ 31 + 2 = 33 := ⟨by decide +kernel, rfl⟩
theorem dc_M_setComb_33 : decode prog_9_method_22_code 33 = .ok (.ireturn, 1) := by decide +kernel
theorem dc_M_setFlag_0 : decode prog_9_method_24_code 0 = .ok (.iload_n 1, 1) ∧ 0 + 1 = 1 := ⟨by decide +kernel, rfl⟩
theorem dc_M_setFlag_1 : decode prog_9_method_24_code 1 = .ok (.invokestatic 65, 3) ∧ 1 + 3 = 4 := ⟨by decide +kernel, rfl⟩
theorem dc_M_setFlag_4 : decode prog_9_method_24_code 4 = .ok (.ifCond .eq 15, 3) ∧ ((4 : Nat) : Int) + (15) = ((19 : Nat) : Int) ∧ 4 + 3 = 7 := ⟨by decide +kernel, by decide, rfl⟩
theorem dc_M_setFlag_7 : decode prog_9_method_24_code 7 = .ok (.iload_n 2, 1) ∧ 7 + 1 = 8 := ⟨by decide +kernel, rfl⟩
theorem dc_M_setFlag_8 : decode prog_9_method_24_code 8 = .ok (.invokestatic 65, 3) ∧ 8 + 3 = 11 := ⟨by decide +kernel, rfl⟩
theorem dc_M_setFlag_11 : decode prog_9_method_24_code 11 = .ok (.ifCond .eq 8, 3) ∧ ((11 : Nat) : Int) + (8) = ((19 : Nat) : Int) ∧ 11 + 3 = 14 := ⟨by decide +kernel, by decide, rfl⟩
theorem dc_M_setFlag_14 : decode prog_9_method_24_code 14 = .ok (.iload_n 2, 1) ∧ 14 + 1 = 15 := ⟨by decide +kernel, rfl⟩
theorem dc_M_setFlag_15 : decode prog_9_method_24_code 15 = .ok (.iload_n 1, 1) ∧ 15 + 1 = 16 := ⟨by decide +kernel, rfl⟩
theorem dc_M_setFlag_16 : decode prog_9_method_24_code 16 = .ok (.if_icmp .gt 6, 3) ∧ ((16 : Nat) : Int) + (6) = ((22 : Nat) : Int) ∧ 16 + 3 = 19 := ⟨by decide +kernel, by decide, rfl⟩
theorem dc_M_setFlag_19 : decode prog_9_method_24_code 19 = .ok (.ldc 64, 2) ∧ 19 + 2 = 21 := ⟨by decide +kernel, rfl⟩
theorem dc_M_setFlag_21 : decode prog_9_method_24_code 21 = .ok (.ireturn, 1) := by decide +kernel
theorem dc_M_setFlag_22 : decode prog_9_method_24_code 22 = .ok (.aload_n 0, 1) ∧ 22 + 1 = 23 := ⟨by decide +kernel, rfl⟩
theorem dc_M_setFlag_23 : decode prog_9_method_24_code 23 = .ok (.invokevirtual 47, 3) ∧ 23 + 3 = 26 := ⟨by decide +kernel, rfl⟩
theorem dc_M_setFlag_26 : decode prog_9_method_24_code 26 = .ok (.aload_n 0, 1) ∧ 26 + 1 = 27 := ⟨by decide +kernel, rfl⟩
theorem dc_M_setFlag_27 : decode prog_9_method_24_code 27 = .ok (.getfield 7, 3) ∧ 27 + 3 = 30 := ⟨by decide +kernel, rfl⟩
theorem dc_M_setFlag_30 : decode prog_9_method_24_code 30 = .ok (.bipush 18, 2) ∧ 30 + 2 = 32 := ⟨by decide +kernel, rfl⟩
theorem dc_M_setFlag_32 : decode prog_9_method_24_code 32 = .ok (.iaload, 1) ∧ 32 + 1 = 33 := ⟨by decide +kernel, rfl⟩
theorem dc_M_setFlag_33 : decode prog_9_method_24_code 33 = .ok (.istore_n 3, 1) ∧ 33 + 1 = 34 := ⟨by decide +kernel, rfl⟩
theorem dc_M_setFlag_34 : decode prog_9_method_24_code 34 = .ok (.aload_n 0, 1) ∧ 34 + 1 = 35 := ⟨by decide +kernel, rfl⟩
theorem dc_M_setFlag_35 : decode prog_9_method_24_code 35 = .ok (.iload_n 1, 1) ∧ 35 + 1 = 36 := ⟨by decide +kernel, rfl⟩
theorem dc_M_setFlag_36 : decode prog_9_method_24_code 36 = .ok (.iload_n 2, 1) ∧ 36 + 1 = 37 := ⟨by decide +kernel, rfl⟩
theorem dc_M_setFlag_37 : decode prog_9_method_24_code 37 = .ok (.invokevirtual 73, 3) ∧ 37 + 3 = 40 := ⟨by decide +kernel, rfl⟩
theorem dc_M_setFlag_40 : decode prog_9_method_24_code 40 = .ok (.iload_n 3, 1) ∧ 40 + 1 = 41 := ⟨by decide +kernel, rfl⟩
theorem dc_M_setFlag_41 : decode prog_9_method_24_code 41 = .ok (.ireturn, 1) := by decide +kernel
theorem dc_M_flags_0 : decode prog_9_method_23_code 0 = .ok (.aload_n 0, 1) ∧ 0 + 1 = 1 := ⟨by decide +kernel, rfl⟩
theorem dc_M_flags_1 : decode prog_9_method_23_code 1 = .ok (.getfield 7, 3) ∧ 1 + 3 = 4 := ⟨by decide +kernel, rfl⟩
theorem dc_M_flags_4 : decode prog_9_method_23_code 4 = .ok (.bipush 18, 2) ∧ 4 + 2 = 6 := ⟨by decide +kernel, rfl⟩
theorem dc_M_flags_6 : decode prog_9_method_23_code 6 = .ok (.iconst 1, 1) ∧ 6 + 1 = 7 := ⟨by decide +kernel, rfl⟩
theorem dc_M_flags_7 : decode prog_9_method_23_code 7 = .ok (.iastore, 1) ∧ 7 + 1 = 8 := ⟨by decide +kernel, rfl⟩
theorem dc_M_flags_8 : decode prog_9_method_23_code 8 = .ok (.aload_n 0, 1) ∧ 8 + 1 = 9 := ⟨by decide +kernel, rfl⟩
theorem dc_M_flags_9 : decode prog_9_method_23_code 9 = .ok (.getfield 7, 3) ∧ 9 + 3 = 12 := ⟨by decide +kernel, rfl⟩
theorem dc_M_flags_12 : decode prog_9_method_23_code 12 = .ok (.bipush 19, 2) ∧ 12 + 2 = 14 := ⟨by decide +kernel, rfl⟩
theorem dc_M_flags_14 : decode prog_9_method_23_code 14 = .ok (.iload_n 1, 1) ∧ 14 + 1 = 15 := ⟨by decide +kernel, rfl⟩
theorem dc_M_flags_15 : decode prog_9_method_23_code 15 = .ok (.iastore, 1) ∧ 15 + 1 = 16 := ⟨by decide +kernel, rfl⟩
theorem dc_M_flags_16 : decode prog_9_method_23_code 16 = .ok (.aload_n 0, 1) ∧ 16 + 1 = 17 := ⟨by decide +kernel, rfl⟩
theorem dc_M_flags_17 : decode prog_9_method_23_code 17 = .ok (.getfield 7, 3) ∧ 17 + 3 = 20 := ⟨by decide +kernel, rfl⟩
theorem dc_M_flags_20 : decode prog_9_method_23_code 20 = .ok (.bipush 20, 2) ∧ 20 + 2 = 22 := ⟨by decide +kernel, rfl⟩
theorem dc_M_flags_22 : decode prog_9_method_23_code 22 = .ok (.iload_n 2, 1) ∧ 22 + 1 = 23 := ⟨by decide +kernel, rfl⟩
theorem dc_M_flags_23 : decode prog_9_method_23_code 23 = .ok (.iastore, 1) ∧ 23 + 1 = 24 := ⟨by decide +kernel, rfl⟩
theorem dc_M_flags_24 : decode prog_9_method_23_code 24 = .ok (.return_, 1) := by decide +kernel
theorem dc_M_appendCharacter_0 : decode prog_9_method_25_code 0 = .ok (.iload_n 1, 1) ∧ 0 + 1 = 1 := ⟨by decide +kernel, rfl⟩
theorem dc_M_appendCharacter_1 : decode prog_9_method_25_code 1 = .ok (.iconst 0, 1) ∧ 1 + 1 = 2 := ⟨by decide +kernel, rfl⟩
theorem dc_M_appendCharacter_2 : decode prog_9_method_25_code 2 = .ok (.sipush 255, 3) ∧ 2 + 3 = 5 := ⟨by decide +kernel, rfl⟩
theorem dc_M_appendCharacter_5 : decode prog_9_method_25_code 5 = .ok (.invokestatic 31, 3) ∧ 5 + 3 = 8 := ⟨by decide +kernel, rfl⟩
theorem dc_M_appendCharacter_8 : decode prog_9_method_25_code 8 = .ok (.ifCond .ne 6, 3) ∧ ((8 : Nat) : Int) + (6) = ((14 : Nat) : Int) ∧ 8 + 3 = 11 := ⟨by decide +kernel, by decide, rfl⟩
theorem dc_M_appendCharacter_11 : decode prog_9_method_25_code 11 = .ok (.ldc 64, 2) ∧ 11 + 2 = 13 := ⟨by decide +kernel, rfl⟩
theorem dc_M_appendCharacter_13 : decode prog_9_method_25_code 13 = .ok (.ireturn, 1) := by decide +kernel
theorem dc_M_appendCharacter_14 : decode prog_9_method_25_code 14 = .ok (.aload_n 0, 1) ∧ 14 + 1 = 15 := ⟨by decide +kernel, rfl⟩
theorem dc_M_appendCharacter_15 : decode prog_9_method_25_code 15 = .ok (.getfield 76, 3) ∧ 15 + 3 = 18 := ⟨by decide +kernel, rfl⟩
theorem dc_M_appendCharacter_18 : decode prog_9_method_25_code 18 = .ok (.bipush 100, 2) ∧ 18 + 2 = 20 := ⟨by decide +kernel, rfl⟩
theorem dc_M_appendCharacter_20 : decode prog_9_method_25_code 20 = .ok (.if_icmp .ne 6, 3) ∧ ((20 : Nat) : Int) + (6) = ((26 : Nat) : Int) ∧ 20 + 3 = 23 := ⟨by decide +kernel, by decide, rfl⟩
theorem dc_M_appendCharacter_23 : decode prog_9_method_25_code 23 = .ok (.ldc 46, 2) ∧ 23 + 2 = 25 := ⟨by decide +kernel, rfl⟩
theorem dc_M_appendCharacter_25 : decode prog_9_method_25_code 25 = .ok (.ireturn, 1) := by decide +kernel
theorem dc_M_appendCharacter_26 : decode prog_9_method_25_code 26 = .ok (.aload_n 0, 1) ∧ 26 + 1 = 27 := ⟨by decide +kernel, rfl⟩
theorem dc_M_appendCharacter_27 : decode prog_9_method_25_code 27 = .ok (.getfield 22, 3) ∧ 27 + 3 = 30 := ⟨by decide +kernel, rfl⟩
theorem dc_M_appendCharacter_30 : decode prog_9_method_25_code 30 = .ok (.aload_n 0, 1) ∧ 30 + 1 = 31 := ⟨by decide +kernel, rfl⟩
theorem dc_M_appendCharacter_31 : decode prog_9_method_25_code 31 = .ok (.getfield 76, 3) ∧ 31 + 3 = 34 := ⟨by decide +kernel, rfl⟩
theorem dc_M_appendCharacter_34 : decode prog_9_method_25_code 34 = .ok (.iload_n 1, 1) ∧ 34 + 1 = 35 := ⟨by decide +kernel, rfl⟩
theorem dc_M_appendCharacter_35 : decode prog_9_method_25_code 35 = .ok (.i2b, 1) ∧ 35 + 1 = 36 := ⟨by decide +kernel, rfl⟩
theorem dc_M_appendCharacter_36 : decode prog_9_method_25_code 36 = .ok (.bastore, 1) ∧ 36 + 1 = 37 := ⟨by decide +kernel, rfl⟩
theorem dc_M_appendCharacter_37 : decode prog_9_method_25_code 37 = .ok (.aload_n 0, 1) ∧ 37 + 1 = 38 := ⟨by decide +kernel, rfl⟩
theorem dc_M_appendCharacter_38 : decode prog_9_method_25_code 38 = .ok (.dup, 1) ∧ 38 + 1 = 39 := ⟨by decide +kernel, rfl⟩
theorem dc_M_appendCharacter_39 : decode prog_9_method_25_code 39 = .ok (.getfield 76, 3) ∧ 39 + 3 = 42 := ⟨by decide +kernel, rfl⟩
theorem dc_M_appendCharacter_42 : decode prog_9_method_25_code 42 = .ok (.iconst 1, 1) ∧ 42 + 1 = 43 := ⟨by decide +kernel, rfl⟩
theorem dc_M_appendCharacter_43 : decode prog_9_method_25_code 43 = .ok (.iadd, 1) ∧ 43 + 1 = 44 := ⟨by decide +kernel, rfl⟩
theorem dc_M_appendCharacter_44 : decode prog_9_method_25_code 44 = .ok (.putfield 76, 3) ∧ 44 + 3 = 47 := ⟨by decide +kernel, rfl⟩
theorem dc_M_appendCharacter_47 : decode prog_9_method_25_code 47 = .ok (.aload_n 0, 1) ∧ 47 + 1 = 48 := ⟨by decide +kernel, rfl⟩
theorem dc_M_appendCharacter_48 : decode prog_9_method_25_code 48 = .ok (.getfield 76, 3) ∧ 48 + 3 = 51 := ⟨by decide +kernel, rfl⟩
theorem dc_M_appendCharacter_51 : decode prog_9_method_25_code 51 = .ok (.ireturn, 1) := by decide +kernel
theorem dc_M_clearText_0 : decode prog_9_method_26_code 0 = .ok (.aload_n 0, 1) ∧ 0 + 1 = 1 := ⟨by decide +kernel, rfl⟩
theorem dc_M_clearText_1 : decode prog_9_method_26_code 1 = .ok (.getfield 76, 3) ∧ 1 + 3 = 4 := ⟨by decide +kernel, rfl⟩
theorem dc_M_clearText_4 : decode prog_9_method_26_code 4 = .ok (.istore_n 1, 1) ∧ 4 + 1 = 5 := ⟨by decide +kernel, rfl⟩
theorem dc_M_clearText_5 : decode prog_9_method_26_code 5 = .ok (.aload_n 0, 1) ∧ 5 + 1 = 6 := ⟨by decide +kernel, rfl⟩
theorem dc_M_clearText_6 : decode prog_9_method_26_code 6 = .ok (.iconst 0, 1) ∧ 6 + 1 = 7 := ⟨by decide +kernel, rfl⟩
theorem dc_M_clearText_7 : decode prog_9_method_26_code 7 = .ok (.putfield 76, 3) ∧ 7 + 3 = 10 := ⟨by decide +kernel, rfl⟩
theorem dc_M_clearText_10 : decode prog_9_method_26_code 10 = .ok (.iload_n 1, 1) ∧ 10 + 1 = 11 := ⟨by decide +kernel, rfl⟩
theorem dc_M_clearText_11 : decode prog_9_method_26_code 11 = .ok (.ireturn, 1) := by decide +kernel
theorem dc_M_load_0 : decode prog_9_method_32_code 0 = .ok (.aload_n 0, 1) ∧ 0 + 1 = 1 := ⟨by decide +kernel, rfl⟩
theorem dc_M_load_1 : decode prog_9_method_32_code 1 = .ok (.invokevirtual 99, 3) ∧ 1 + 3 = 4 := ⟨by decide +kernel, rfl⟩
theorem dc_M_load_4 : decode prog_9_method_32_code 4 = .ok (.aload_n 0, 1) ∧ 4 + 1 = 5 := ⟨by decide +kernel, rfl⟩
theorem dc_M_load_5 : decode prog_9_method_32_code 5 = .ok (.iconst 0, 1) ∧ 5 + 1 = 6 := ⟨by decide +kernel, rfl⟩
theorem dc_M_load_6 : decode prog_9_method_32_code 6 = .ok (.putfield 79, 3) ∧ 6 + 3 = 9 := ⟨by decide +kernel, rfl⟩
theorem dc_M_load_9 : decode prog_9_method_32_code 9 = .ok (.iconst 0, 1) ∧ 9 + 1 = 10 := ⟨by decide +kernel, rfl⟩
theorem dc_M_load_10 : decode prog_9_method_32_code 10 = .ok (.istore_n 1, 1) ∧ 10 + 1 = 11 := ⟨by decide +kernel, rfl⟩
theorem dc_M_load_11 : decode prog_9_method_32_code 11 = .ok (.iconst 1, 1) ∧ 11 + 1 = 12 := ⟨by decide +kernel, rfl⟩
theorem dc_M_load_12 : decode prog_9_method_32_code 12 = .ok (.istore_n 2, 1) ∧ 12 + 1 = 13 := ⟨by decide +kernel, rfl⟩
theorem dc_M_load_13 : decode prog_9_method_32_code 13 = .ok (.iload_n 2, 1) ∧ 13 + 1 = 14 := ⟨by decide +kernel, rfl⟩
theorem dc_M_load_14 : decode prog_9_method_32_code 14 = .ok (.ifCond .eq 21, 3) ∧ ((14 : Nat) : Int) + (21) = ((35 : Nat) : Int) ∧ 14 + 3 = 17 := ⟨by decide +kernel, by decide, rfl⟩
theorem dc_M_load_17 : decode prog_9_method_32_code 17 = .ok (.aload_n 0, 1) ∧ 17 + 1 = 18 := ⟨by decide +kernel, rfl⟩
theorem dc_M_load_18 : decode prog_9_method_32_code 18 = .ok (.invokevirtual 82, 3) ∧ 18 + 3 = 21 := ⟨by decide +kernel, rfl⟩
theorem dc_M_load_21 : decode prog_9_method_32_code 21 = .ok (.ifCond .lt 14, 3) ∧ ((21 : Nat) : Int) + (14) = ((35 : Nat) : Int) ∧ 21 + 3 = 24 := ⟨by decide +kernel, by decide, rfl⟩
theorem dc_M_load_24 : decode prog_9_method_32_code 24 = .ok (.aload_n 0, 1) ∧ 24 + 1 = 25 := ⟨by decide +kernel, rfl⟩
theorem dc_M_load_25 : decode prog_9_method_32_code 25 = .ok (.invokevirtual 102, 3) ∧ 25 + 3 = 28 := ⟨by decide +kernel, rfl⟩
theorem dc_M_load_28 : decode prog_9_method_32_code 28 = .ok (.istore_n 2, 1) ∧ 28 + 1 = 29 := ⟨by decide +kernel, rfl⟩
theorem dc_M_load_29 : decode prog_9_method_32_code 29 = .ok (.iinc 1 1, 3) ∧ 29 + 3 = 32 := ⟨by decide +kernel, rfl⟩
theorem dc_M_load_32 : decode prog_9_method_32_code 32 = .ok (.goto (-19), 3) ∧ ((32 : Nat) : Int) + (-19) = ((13 : Nat) : Int) := ⟨by decide +kernel, by decide⟩
theorem dc_M_load_35 : decode prog_9_method_32_code 35 = .ok (.aload_n 0, 1) ∧ 35 + 1 = 36 := ⟨by decide +kernel, rfl⟩
theorem dc_M_load_36 : decode prog_9_method_32_code 36 = .ok (.invokevirtual 106, 3) ∧ 36 + 3 = 39 := ⟨by decide +kernel, rfl⟩
theorem dc_M_load_39 : decode prog_9_method_32_code 39 = .ok (.iload_n 2, 1) ∧ 39 + 1 = 40 := ⟨by decide +kernel, rfl⟩
theorem dc_M_load_40 : decode prog_9_method_32_code 40 = .ok (.ifCond .ne 11, 3) ∧ ((40 : Nat) : Int) + (11) = ((51 : Nat) : Int) ∧ 40 + 3 = 43 := ⟨by decide +kernel, by decide, rfl⟩
theorem dc_M_load_43 : decode prog_9_method_32_code 43 = .ok (.ldc 109, 2) ∧ 43 + 2 = 45 := ⟨by decide +kernel, rfl⟩
theorem dc_M_load_45 : decode prog_9_method_32_code 45 = .ok (.aload_n 0, 1) ∧ 45 + 1 = 46 := ⟨by decide +kernel, rfl⟩
theorem dc_M_load_46 : decode prog_9_method_32_code 46 = .ok (.getfield 79, 3) ∧ 46 + 3 = 49 := ⟨by decide +kernel, rfl⟩
theorem dc_M_load_49 : decode prog_9_method_32_code 49 = .ok (.isub, 1) ∧ 49 + 1 = 50 := ⟨by decide +kernel, rfl⟩
theorem dc_M_load_50 : decode prog_9_method_32_code 50 = .ok (.ireturn, 1) := by decide +kernel
theorem dc_M_load_51 : decode prog_9_method_32_code 51 = .ok (.aload_n 0, 1) ∧ 51 + 1 = 52 := ⟨by decide +kernel, rfl⟩
theorem dc_M_load_52 : decode prog_9_method_32_code 52 = .ok (.invokevirtual 47, 3) ∧ 52 + 3 = 55 := ⟨by decide +kernel, rfl⟩
theorem dc_M_load_55 : decode prog_9_method_32_code 55 = .ok (.aload_n 0, 1) ∧ 55 + 1 = 56 := ⟨by decide +kernel, rfl⟩
theorem dc_M_load_56 : decode prog_9_method_32_code 56 = .ok (.invokevirtual 106, 3) ∧ 56 + 3 = 59 := ⟨by decide +kernel, rfl⟩
theorem dc_M_load_59 : decode prog_9_method_32_code 59 = .ok (.aload_n 0, 1) ∧ 59 + 1 = 60 := ⟨by decide +kernel, rfl⟩
theorem dc_M_load_60 : decode prog_9_method_32_code 60 = .ok (.iconst 0, 1) ∧ 60 + 1 = 61 := ⟨by decide +kernel, rfl⟩
theorem dc_M_load_61 : decode prog_9_method_32_code 61 = .ok (.putfield 76, 3) ∧ 61 + 3 = 64 := ⟨by decide +kernel, rfl⟩
theorem dc_M_load_64 : decode prog_9_method_32_code 64 = .ok (.iload_n 1, 1) ∧ 64 + 1 = 65 := ⟨by decide +kernel, rfl⟩
theorem dc_M_load_65 : decode prog_9_method_32_code 65 = .ok (.ireturn, 1) := by decide +kernel
theorem dc_M_putAside_0 : decode prog_9_method_8_code 0 = .ok (.iconst 0, 1) ∧ 0 + 1 = 1 := ⟨by decide +kernel, rfl⟩
theorem dc_M_putAside_1 : decode prog_9_method_8_code 1 = .ok (.istore_n 1, 1) ∧ 1 + 1 = 2 := ⟨by decide +kernel, rfl⟩
theorem dc_M_putAside_2 : decode prog_9_method_8_code 2 = .ok (.iload_n 1, 1) ∧ 2 + 1 = 3 := ⟨by decide +kernel, rfl⟩
theorem dc_M_putAside_3 : decode prog_9_method_8_code 3 = .ok (.bipush 80, 2) ∧ 3 + 2 = 5 := ⟨by decide +kernel, rfl⟩
theorem dc_M_putAside_5 : decode prog_9_method_8_code 5 = .ok (.if_icmp .ge 21, 3) ∧ ((5 : Nat) : Int) + (21) = ((26 : Nat) : Int) ∧ 5 + 3 = 8 := ⟨by decide +kernel, by decide, rfl⟩
theorem dc_M_putAside_8 : decode prog_9_method_8_code 8 = .ok (.aload_n 0, 1) ∧ 8 + 1 = 9 := ⟨by decide +kernel, rfl⟩
theorem dc_M_putAside_9 : decode prog_9_method_8_code 9 = .ok (.getfield 19, 3) ∧ 9 + 3 = 12 := ⟨by decide +kernel, rfl⟩
theorem dc_M_putAside_12 : decode prog_9_method_8_code 12 = .ok (.iload_n 1, 1) ∧ 12 + 1 = 13 := ⟨by decide +kernel, rfl⟩
theorem dc_M_putAside_13 : decode prog_9_method_8_code 13 = .ok (.aload_n 0, 1) ∧ 13 + 1 = 14 := ⟨by decide +kernel, rfl⟩
theorem dc_M_putAside_14 : decode prog_9_method_8_code 14 = .ok (.getfield 7, 3) ∧ 14 + 3 = 17 := ⟨by decide +kernel, rfl⟩
theorem dc_M_putAside_17 : decode prog_9_method_8_code 17 = .ok (.iload_n 1, 1) ∧ 17 + 1 = 18 := ⟨by decide +kernel, rfl⟩
theorem dc_M_putAside_18 : decode prog_9_method_8_code 18 = .ok (.iaload, 1) ∧ 18 + 1 = 19 := ⟨by decide +kernel, rfl⟩
theorem dc_M_putAside_19 : decode prog_9_method_8_code 19 = .ok (.iastore, 1) ∧ 19 + 1 = 20 := ⟨by decide +kernel, rfl⟩
theorem dc_M_putAside_20 : decode prog_9_method_8_code 20 = .ok (.iinc 1 1, 3) ∧ 20 + 3 = 23 := ⟨by decide +kernel, rfl⟩
theorem dc_M_putAside_23 : decode prog_9_method_8_code 23 = .ok (.goto (-21), 3) ∧ ((23 : Nat) : Int) + (-21) = ((2 : Nat) : Int) := ⟨by decide +kernel, by decide⟩
theorem dc_M_putAside_26 : decode prog_9_method_8_code 26 = .ok (.return_, 1) := by decide +kernel
theorem dc_M_here_0 : decode prog_9_method_27_code 0 = .ok (.aload_n 0, 1) ∧ 0 + 1 = 1 := ⟨by decide +kernel, rfl⟩
theorem dc_M_here_1 : decode prog_9_method_27_code 1 = .ok (.getfield 79, 3) ∧ 1 + 3 = 4 := ⟨by decide +kernel, rfl⟩
theorem dc_M_here_4 : decode prog_9_method_27_code 4 = .ok (.aload_n 0, 1) ∧ 4 + 1 = 5 := ⟨by decide +kernel, rfl⟩
theorem dc_M_here_5 : decode prog_9_method_27_code 5 = .ok (.getfield 76, 3) ∧ 5 + 3 = 8 := ⟨by decide +kernel, rfl⟩
theorem dc_M_here_8 : decode prog_9_method_27_code 8 = .ok (.if_icmp .ge 30, 3) ∧ ((8 : Nat) : Int) + (30) = ((38 : Nat) : Int) ∧ 8 + 3 = 11 := ⟨by decide +kernel, by decide, rfl⟩
theorem dc_M_here_11 : decode prog_9_method_27_code 11 = .ok (.aload_n 0, 1) ∧ 11 + 1 = 12 := ⟨by decide +kernel, rfl⟩
theorem dc_M_here_12 : decode prog_9_method_27_code 12 = .ok (.getfield 22, 3) ∧ 12 + 3 = 15 := ⟨by decide +kernel, rfl⟩
theorem dc_M_here_15 : decode prog_9_method_27_code 15 = .ok (.aload_n 0, 1) ∧ 15 + 1 = 16 := ⟨by decide +kernel, rfl⟩
theorem dc_M_here_16 : decode prog_9_method_27_code 16 = .ok (.getfield 79, 3) ∧ 16 + 3 = 19 := ⟨by decide +kernel, rfl⟩
theorem dc_M_here_19 : decode prog_9_method_27_code 19 = .ok (.baload, 1) ∧ 19 + 1 = 20 := ⟨by decide +kernel, rfl⟩
theorem dc_M_here_20 : decode prog_9_method_27_code 20 = .ok (.bipush 32, 2) ∧ 20 + 2 = 22 := ⟨by decide +kernel, rfl⟩
theorem dc_M_here_22 : decode prog_9_method_27_code 22 = .ok (.if_icmp .ne 16, 3) ∧ ((22 : Nat) : Int) + (16) = ((38 : Nat) : Int) ∧ 22 + 3 = 25 := ⟨by decide +kernel, by decide, rfl⟩
theorem dc_M_here_25 : decode prog_9_method_27_code 25 = .ok (.aload_n 0, 1) ∧ 25 + 1 = 26 := ⟨by decide +kernel, rfl⟩
theorem dc_M_here_26 : decode prog_9_method_27_code 26 = .ok (.dup, 1) ∧ 26 + 1 = 27 := ⟨by decide +kernel, rfl⟩
theorem dc_M_here_27 : decode prog_9_method_27_code 27 = .ok (.getfield 79, 3) ∧ 27 + 3 = 30 := ⟨by decide +kernel, rfl⟩
theorem dc_M_here_30 : decode prog_9_method_27_code 30 = .ok (.iconst 1, 1) ∧ 30 + 1 = 31 := ⟨by decide +kernel, rfl⟩
theorem dc_M_here_31 : decode prog_9_method_27_code 31 = .ok (.iadd, 1) ∧ 31 + 1 = 32 := ⟨by decide +kernel, rfl⟩
theorem dc_M_here_32 : decode prog_9_method_27_code 32 = .ok (.putfield 79, 3) ∧ 32 + 3 = 35 := ⟨by decide +kernel, rfl⟩
theorem dc_M_here_35 : decode prog_9_method_27_code 35 = .ok (.goto (-35), 3) ∧ ((35 : Nat) : Int) + (-35) = ((0 : Nat) : Int) := ⟨by decide +kernel, by decide⟩
theorem dc_M_here_38 : decode prog_9_method_27_code 38 = .ok (.aload_n 0, 1) ∧ 38 + 1 = 39 := ⟨by decide +kernel, rfl⟩
theorem dc_M_here_39 : decode prog_9_method_27_code 39 = .ok (.getfield 79, 3) ∧ 39 + 3 = 42 := ⟨by decide +kernel, rfl⟩
theorem dc_M_here_42 : decode prog_9_method_27_code 42 = .ok (.aload_n 0, 1) ∧ 42 + 1 = 43 := ⟨by decide +kernel, rfl⟩
theorem dc_M_here_43 : decode prog_9_method_27_code 43 = .ok (.getfield 76, 3) ∧ 43 + 3 = 46 := ⟨by decide +kernel, rfl⟩
theorem dc_M_here_46 : decode prog_9_method_27_code 46 = .ok (.if_icmp .ge 19, 3) ∧ ((46 : Nat) : Int) + (19) = ((65 : Nat) : Int) ∧ 46 + 3 = 49 := ⟨by decide +kernel, by decide, rfl⟩
theorem dc_M_here_49 : decode prog_9_method_27_code 49 = .ok (.aload_n 0, 1) ∧ 49 + 1 = 50 := ⟨by decide +kernel, rfl⟩
theorem dc_M_here_50 : decode prog_9_method_27_code 50 = .ok (.getfield 22, 3) ∧ 50 + 3 = 53 := ⟨by decide +kernel, rfl⟩
theorem dc_M_here_53 : decode prog_9_method_27_code 53 = .ok (.aload_n 0, 1) ∧ 53 + 1 = 54 := ⟨by decide +kernel, rfl⟩
theorem dc_M_here_54 : decode prog_9_method_27_code 54 = .ok (.getfield 79, 3) ∧ 54 + 3 = 57 := ⟨by decide +kernel, rfl⟩
theorem dc_M_here_57 : decode prog_9_method_27_code 57 = .ok (.baload, 1) ∧ 57 + 1 = 58 := ⟨by decide +kernel, rfl⟩
theorem dc_M_here_58 : decode prog_9_method_27_code 58 = .ok (.sipush 255, 3) ∧ 58 + 3 = 61 := ⟨by decide +kernel, rfl⟩
theorem dc_M_here_61 : decode prog_9_method_27_code 61 = .ok (.iand, 1) ∧ 61 + 1 = 62 := ⟨by decide +kernel, rfl⟩
theorem dc_M_here_62 : decode prog_9_method_27_code 62 = .ok (.goto 4, 3) ∧ ((62 : Nat) : Int) + (4) = ((66 : Nat) : Int) := ⟨by decide +kernel, by decide⟩
theorem dc_M_here_65 : decode prog_9_method_27_code 65 = .ok (.iconst (-1), 1) ∧ 65 + 1 = 66 := ⟨by decide +kernel, rfl⟩
theorem dc_M_here_66 : decode prog_9_method_27_code 66 = .ok (.ireturn, 1) := by decide +kernel
theorem dc_M_readsItem_0 : decode prog_9_method_31_code 0 = .ok (.aload_n 0, 1) ∧ 0 + 1 = 1 := ⟨by decide +kernel, rfl⟩
theorem dc_M_readsItem_1 : decode prog_9_method_31_code 1 = .ok (.invokevirtual 82, 3) ∧ 1 + 3 = 4 := ⟨by decide +kernel, rfl⟩
theorem dc_M_readsItem_4 : decode prog_9_method_31_code 4 = .ok (.istore_n 1, 1) ∧ 4 + 1 = 5 := ⟨by decide +kernel, rfl⟩
theorem dc_M_readsItem_5 : decode prog_9_method_31_code 5 = .ok (.aload_n 0, 1) ∧ 5 + 1 = 6 := ⟨by decide +kernel, rfl⟩
theorem dc_M_readsItem_6 : decode prog_9_method_31_code 6 = .ok (.getfield 79, 3) ∧ 6 + 3 = 9 := ⟨by decide +kernel, rfl⟩
theorem dc_M_readsItem_9 : decode prog_9_method_31_code 9 = .ok (.istore_n 2, 1) ∧ 9 + 1 = 10 := ⟨by decide +kernel, rfl⟩
theorem dc_M_readsItem_10 : decode prog_9_method_31_code 10 = .ok (.iload_n 1, 1) ∧ 10 + 1 = 11 := ⟨by decide +kernel, rfl⟩
theorem dc_M_readsItem_11 : decode prog_9_method_31_code 11 = .ok (.bipush 108, 2) ∧ 11 + 2 = 13 := ⟨by decide +kernel, rfl⟩
theorem dc_M_readsItem_13 : decode prog_9_method_31_code 13 = .ok (.if_icmp .eq 17, 3) ∧ ((13 : Nat) : Int) + (17) = ((30 : Nat) : Int) ∧ 13 + 3 = 16 := ⟨by decide +kernel, by decide, rfl⟩
theorem dc_M_readsItem_16 : decode prog_9_method_31_code 16 = .ok (.iload_n 1, 1) ∧ 16 + 1 = 17 := ⟨by decide +kernel, rfl⟩
theorem dc_M_readsItem_17 : decode prog_9_method_31_code 17 = .ok (.bipush 99, 2) ∧ 17 + 2 = 19 := ⟨by decide +kernel, rfl⟩
theorem dc_M_readsItem_19 : decode prog_9_method_31_code 19 = .ok (.if_icmp .eq 11, 3) ∧ ((19 : Nat) : Int) + (11) = ((30 : Nat) : Int) ∧ 19 + 3 = 22 := ⟨by decide +kernel, by decide, rfl⟩
theorem dc_M_readsItem_22 : decode prog_9_method_31_code 22 = .ok (.iload_n 1, 1) ∧ 22 + 1 = 23 := ⟨by decide +kernel, rfl⟩
theorem dc_M_readsItem_23 : decode prog_9_method_31_code 23 = .ok (.bipush 102, 2) ∧ 23 + 2 = 25 := ⟨by decide +kernel, rfl⟩
theorem dc_M_readsItem_25 : decode prog_9_method_31_code 25 = .ok (.if_icmp .eq 5, 3) ∧ ((25 : Nat) : Int) + (5) = ((30 : Nat) : Int) ∧ 25 + 3 = 28 := ⟨by decide +kernel, by decide, rfl⟩
theorem dc_M_readsItem_28 : decode prog_9_method_31_code 28 = .ok (.iconst 0, 1) ∧ 28 + 1 = 29 := ⟨by decide +kernel, rfl⟩
theorem dc_M_readsItem_29 : decode prog_9_method_31_code 29 = .ok (.ireturn, 1) := by decide +kernel
theorem dc_M_readsItem_30 : decode prog_9_method_31_code 30 = .ok (.aload_n 0, 1) ∧ 30 + 1 = 31 := ⟨by decide +kernel, rfl⟩
theorem dc_M_readsItem_31 : decode prog_9_method_31_code 31 = .ok (.dup, 1) ∧ 31 + 1 = 32 := ⟨by decide +kernel, rfl⟩
theorem dc_M_readsItem_32 : decode prog_9_method_31_code 32 = .ok (.getfield 79, 3) ∧ 32 + 3 = 35 := ⟨by decide +kernel, rfl⟩
theorem dc_M_readsItem_35 : decode prog_9_method_31_code 35 = .ok (.iconst 1, 1) ∧ 35 + 1 = 36 := ⟨by decide +kernel, rfl⟩
theorem dc_M_readsItem_36 : decode prog_9_method_31_code 36 = .ok (.iadd, 1) ∧ 36 + 1 = 37 := ⟨by decide +kernel, rfl⟩
theorem dc_M_readsItem_37 : decode prog_9_method_31_code 37 = .ok (.putfield 79, 3) ∧ 37 + 3 = 40 := ⟨by decide +kernel, rfl⟩
theorem dc_M_readsItem_40 : decode prog_9_method_31_code 40 = .ok (.iload_n 1, 1) ∧ 40 + 1 = 41 := ⟨by decide +kernel, rfl⟩
theorem dc_M_readsItem_41 : decode prog_9_method_31_code 41 = .ok (.bipush 102, 2) ∧ 41 + 2 = 43 := ⟨by decide +kernel, rfl⟩
theorem dc_M_readsItem_43 : decode prog_9_method_31_code 43 = .ok (.if_icmp .eq 22, 3) ∧ ((43 : Nat) : Int) + (22) = ((65 : Nat) : Int) ∧ 43 + 3 = 46 := ⟨by decide +kernel, by decide, rfl⟩
theorem dc_M_readsItem_46 : decode prog_9_method_31_code 46 = .ok (.aload_n 0, 1) ∧ 46 + 1 = 47 := ⟨by decide +kernel, rfl⟩
theorem dc_M_readsItem_47 : decode prog_9_method_31_code 47 = .ok (.iload_n 1, 1) ∧ 47 + 1 = 48 := ⟨by decide +kernel, rfl⟩
theorem dc_M_readsItem_48 : decode prog_9_method_31_code 48 = .ok (.bipush 108, 2) ∧ 48 + 2 = 50 := ⟨by decide +kernel, rfl⟩
theorem dc_M_readsItem_50 : decode prog_9_method_31_code 50 = .ok (.if_icmp .ne 8, 3) ∧ ((50 : Nat) : Int) + (8) = ((58 : Nat) : Int) ∧ 50 + 3 = 53 := ⟨by decide +kernel, by decide, rfl⟩
theorem dc_M_readsItem_53 : decode prog_9_method_31_code 53 = .ok (.bipush 21, 2) ∧ 53 + 2 = 55 := ⟨by decide +kernel, rfl⟩
theorem dc_M_readsItem_55 : decode prog_9_method_31_code 55 = .ok (.goto 5, 3) ∧ ((55 : Nat) : Int) + (5) = ((60 : Nat) : Int) := ⟨by decide +kernel, by decide⟩
theorem dc_M_readsItem_58 : decode prog_9_method_31_code 58 = .ok (.bipush 42, 2) ∧ 58 + 2 = 60 := ⟨by decide +kernel, rfl⟩
theorem dc_M_readsItem_60 : decode prog_9_method_31_code 60 = .ok (.iload_n 2, 1) ∧ 60 + 1 = 61 := ⟨by decide +kernel, rfl⟩
theorem dc_M_readsItem_61 : decode prog_9_method_31_code 61 = .ok (.invokevirtual 96, 3) ∧ 61 + 3 = 64 := ⟨by decide +kernel, rfl⟩
theorem dc_M_readsItem_64 : decode prog_9_method_31_code 64 = .ok (.ireturn, 1) := by decide +kernel
theorem dc_M_readsItem_65 : decode prog_9_method_31_code 65 = .ok (.aload_n 0, 1) ∧ 65 + 1 = 66 := ⟨by decide +kernel, rfl⟩
theorem dc_M_readsItem_66 : decode prog_9_method_31_code 66 = .ok (.iconst 1, 1) ∧ 66 + 1 = 67 := ⟨by decide +kernel, rfl⟩
theorem dc_M_readsItem_67 : decode prog_9_method_31_code 67 = .ok (.sipush (-20000), 3) ∧ 67 + 3 = 70 := ⟨by decide +kernel, rfl⟩
theorem dc_M_readsItem_70 : decode prog_9_method_31_code 70 = .ok (.sipush 20000, 3) ∧ 70 + 3 = 73 := ⟨by decide +kernel, rfl⟩
theorem dc_M_readsItem_73 : decode prog_9_method_31_code 73 = .ok (.invokevirtual 92, 3) ∧ 73 + 3 = 76 := ⟨by decide +kernel, rfl⟩
theorem dc_M_readsItem_76 : decode prog_9_method_31_code 76 = .ok (.ifCond .ne 5, 3) ∧ ((76 : Nat) : Int) + (5) = ((81 : Nat) : Int) ∧ 76 + 3 = 79 := ⟨by decide +kernel, by decide, rfl⟩
theorem dc_M_readsItem_79 : decode prog_9_method_31_code 79 = .ok (.iconst 0, 1) ∧ 79 + 1 = 80 := ⟨by decide +kernel, rfl⟩
theorem dc_M_readsItem_80 : decode prog_9_method_31_code 80 = .ok (.ireturn, 1) := by decide +kernel
theorem dc_M_readsItem_81 : decode prog_9_method_31_code 81 = .ok (.aload_n 0, 1) ∧ 81 + 1 = 82 := ⟨by decide +kernel, rfl⟩
theorem dc_M_readsItem_82 : decode prog_9_method_31_code 82 = .ok (.getfield 89, 3) ∧ 82 + 3 = 85 := ⟨by decide +kernel, rfl⟩
theorem dc_M_readsItem_85 : decode prog_9_method_31_code 85 = .ok (.istore_n 3, 1) ∧ 85 + 1 = 86 := ⟨by decide +kernel, rfl⟩
theorem dc_M_readsItem_86 : decode prog_9_method_31_code 86 = .ok (.aload_n 0, 1) ∧ 86 + 1 = 87 := ⟨by decide +kernel, rfl⟩
theorem dc_M_readsItem_87 : decode prog_9_method_31_code 87 = .ok (.bipush 58, 2) ∧ 87 + 2 = 89 := ⟨by decide +kernel, rfl⟩
theorem dc_M_readsItem_89 : decode prog_9_method_31_code 89 = .ok (.invokevirtual 86, 3) ∧ 89 + 3 = 92 := ⟨by decide +kernel, rfl⟩
theorem dc_M_readsItem_92 : decode prog_9_method_31_code 92 = .ok (.ifCond .eq 17, 3) ∧ ((92 : Nat) : Int) + (17) = ((109 : Nat) : Int) ∧ 92 + 3 = 95 := ⟨by decide +kernel, by decide, rfl⟩
theorem dc_M_readsItem_95 : decode prog_9_method_31_code 95 = .ok (.aload_n 0, 1) ∧ 95 + 1 = 96 := ⟨by decide +kernel, rfl⟩
theorem dc_M_readsItem_96 : decode prog_9_method_31_code 96 = .ok (.iconst 1, 1) ∧ 96 + 1 = 97 := ⟨by decide +kernel, rfl⟩
theorem dc_M_readsItem_97 : decode prog_9_method_31_code 97 = .ok (.iload_n 3, 1) ∧ 97 + 1 = 98 := ⟨by decide +kernel, rfl⟩
theorem dc_M_readsItem_98 : decode prog_9_method_31_code 98 = .ok (.iconst 1, 1) ∧ 98 + 1 = 99 := ⟨by decide +kernel, rfl⟩
theorem dc_M_readsItem_99 : decode prog_9_method_31_code 99 = .ok (.iadd, 1) ∧ 99 + 1 = 100 := ⟨by decide +kernel, rfl⟩
theorem dc_M_readsItem_100 : decode prog_9_method_31_code 100 = .ok (.sipush 20000, 3) ∧ 100 + 3 = 103 := ⟨by decide +kernel, rfl⟩
theorem dc_M_readsItem_103 : decode prog_9_method_31_code 103 = .ok (.invokevirtual 92, 3) ∧ 103 + 3 = 106 := ⟨by decide +kernel, rfl⟩
theorem dc_M_readsItem_106 : decode prog_9_method_31_code 106 = .ok (.ifCond .ne 5, 3) ∧ ((106 : Nat) : Int) + (5) = ((111 : Nat) : Int) ∧ 106 + 3 = 109 := ⟨by decide +kernel, by decide, rfl⟩
theorem dc_M_readsItem_109 : decode prog_9_method_31_code 109 = .ok (.iconst 0, 1) ∧ 109 + 1 = 110 := ⟨by decide +kernel, rfl⟩
theorem dc_M_readsItem_110 : decode prog_9_method_31_code 110 = .ok (.ireturn, 1) := by decide +kernel
theorem dc_M_readsItem_111 : decode prog_9_method_31_code 111 = .ok (.aload_n 0, 1) ∧ 111 + 1 = 112 := ⟨by decide +kernel, rfl⟩
theorem dc_M_readsItem_112 : decode prog_9_method_31_code 112 = .ok (.iload_n 3, 1) ∧ 112 + 1 = 113 := ⟨by decide +kernel, rfl⟩
theorem dc_M_readsItem_113 : decode prog_9_method_31_code 113 = .ok (.aload_n 0, 1) ∧ 113 + 1 = 114 := ⟨by decide +kernel, rfl⟩
theorem dc_M_readsItem_114 : decode prog_9_method_31_code 114 = .ok (.getfield 89, 3) ∧ 114 + 3 = 117 := ⟨by decide +kernel, rfl⟩
theorem dc_M_readsItem_117 : decode prog_9_method_31_code 117 = .ok (.invokevirtual 73, 3) ∧ 117 + 3 = 120 := ⟨by decide +kernel, rfl⟩
theorem dc_M_readsItem_120 : decode prog_9_method_31_code 120 = .ok (.aload_n 0, 1) ∧ 120 + 1 = 121 := ⟨by decide +kernel, rfl⟩
theorem dc_M_readsItem_121 : decode prog_9_method_31_code 121 = .ok (.bipush 59, 2) ∧ 121 + 2 = 123 := ⟨by decide +kernel, rfl⟩
theorem dc_M_readsItem_123 : decode prog_9_method_31_code 123 = .ok (.invokevirtual 86, 3) ∧ 123 + 3 = 126 := ⟨by decide +kernel, rfl⟩
theorem dc_M_readsItem_126 : decode prog_9_method_31_code 126 = .ok (.ireturn, 1) := by decide +kernel
theorem dc_M_readsPoint_0 : decode prog_9_method_30_code 0 = .ok (.iload_n 1, 1) ∧ 0 + 1 = 1 := ⟨by decide +kernel, rfl⟩
theorem dc_M_readsPoint_1 : decode prog_9_method_30_code 1 = .ok (.bipush 21, 2) ∧ 1 + 2 = 3 := ⟨by decide +kernel, rfl⟩
theorem dc_M_readsPoint_3 : decode prog_9_method_30_code 3 = .ok (.if_icmp .ne 7, 3) ∧ ((3 : Nat) : Int) + (7) = ((10 : Nat) : Int) ∧ 3 + 3 = 6 := ⟨by decide +kernel, by decide, rfl⟩
theorem dc_M_readsPoint_6 : decode prog_9_method_30_code 6 = .ok (.iconst 1, 1) ∧ 6 + 1 = 7 := ⟨by decide +kernel, rfl⟩
theorem dc_M_readsPoint_7 : decode prog_9_method_30_code 7 = .ok (.goto 4, 3) ∧ ((7 : Nat) : Int) + (4) = ((11 : Nat) : Int) := ⟨by decide +kernel, by decide⟩
theorem dc_M_readsPoint_10 : decode prog_9_method_30_code 10 = .ok (.iconst 0, 1) ∧ 10 + 1 = 11 := ⟨by decide +kernel, rfl⟩
theorem dc_M_readsPoint_11 : decode prog_9_method_30_code 11 = .ok (.istore_n 3, 1) ∧ 11 + 1 = 12 := ⟨by decide +kernel, rfl⟩
theorem dc_M_readsPoint_12 : decode prog_9_method_30_code 12 = .ok (.aload_n 0, 1) ∧ 12 + 1 = 13 := ⟨by decide +kernel, rfl⟩
theorem dc_M_readsPoint_13 : decode prog_9_method_30_code 13 = .ok (.iconst 1, 1) ∧ 13 + 1 = 14 := ⟨by decide +kernel, rfl⟩
theorem dc_M_readsPoint_14 : decode prog_9_method_30_code 14 = .ok (.sipush (-20000), 3) ∧ 14 + 3 = 17 := ⟨by decide +kernel, rfl⟩
theorem dc_M_readsPoint_17 : decode prog_9_method_30_code 17 = .ok (.sipush 20000, 3) ∧ 17 + 3 = 20 := ⟨by decide +kernel, rfl⟩
theorem dc_M_readsPoint_20 : decode prog_9_method_30_code 20 = .ok (.invokevirtual 92, 3) ∧ 20 + 3 = 23 := ⟨by decide +kernel, rfl⟩
theorem dc_M_readsPoint_23 : decode prog_9_method_30_code 23 = .ok (.ifCond .ne 5, 3) ∧ ((23 : Nat) : Int) + (5) = ((28 : Nat) : Int) ∧ 23 + 3 = 26 := ⟨by decide +kernel, by decide, rfl⟩
theorem dc_M_readsPoint_26 : decode prog_9_method_30_code 26 = .ok (.iconst 0, 1) ∧ 26 + 1 = 27 := ⟨by decide +kernel, rfl⟩
theorem dc_M_readsPoint_27 : decode prog_9_method_30_code 27 = .ok (.ireturn, 1) := by decide +kernel
theorem dc_M_readsPoint_28 : decode prog_9_method_30_code 28 = .ok (.aload_n 0, 1) ∧ 28 + 1 = 29 := ⟨by decide +kernel, rfl⟩
theorem dc_M_readsPoint_29 : decode prog_9_method_30_code 29 = .ok (.getfield 89, 3) ∧ 29 + 3 = 32 := ⟨by decide +kernel, rfl⟩
theorem dc_M_readsPoint_32 : decode prog_9_method_30_code 32 = .ok (.istore 4, 2) ∧ 32 + 2 = 34 := ⟨by decide +kernel, rfl⟩
theorem dc_M_readsPoint_34 : decode prog_9_method_30_code 34 = .ok (.aload_n 0, 1) ∧ 34 + 1 = 35 := ⟨by decide +kernel, rfl⟩
theorem dc_M_readsPoint_35 : decode prog_9_method_30_code 35 = .ok (.bipush 58, 2) ∧ 35 + 2 = 37 := ⟨by decide +kernel, rfl⟩
theorem dc_M_readsPoint_37 : decode prog_9_method_30_code 37 = .ok (.invokevirtual 86, 3) ∧ 37 + 3 = 40 := ⟨by decide +kernel, rfl⟩
theorem dc_M_readsPoint_40 : decode prog_9_method_30_code 40 = .ok (.ifCond .eq 41, 3) ∧ ((40 : Nat) : Int) + (41) = ((81 : Nat) : Int) ∧ 40 + 3 = 43 := ⟨by decide +kernel, by decide, rfl⟩
theorem dc_M_readsPoint_43 : decode prog_9_method_30_code 43 = .ok (.aload_n 0, 1) ∧ 43 + 1 = 44 := ⟨by decide +kernel, rfl⟩
theorem dc_M_readsPoint_44 : decode prog_9_method_30_code 44 = .ok (.iload_n 3, 1) ∧ 44 + 1 = 45 := ⟨by decide +kernel, rfl⟩
theorem dc_M_readsPoint_45 : decode prog_9_method_30_code 45 = .ok (.ifCond .ne 7, 3) ∧ ((45 : Nat) : Int) + (7) = ((52 : Nat) : Int) ∧ 45 + 3 = 48 := ⟨by decide +kernel, by decide, rfl⟩
theorem dc_M_readsPoint_48 : decode prog_9_method_30_code 48 = .ok (.iconst 1, 1) ∧ 48 + 1 = 49 := ⟨by decide +kernel, rfl⟩
theorem dc_M_readsPoint_49 : decode prog_9_method_30_code 49 = .ok (.goto 4, 3) ∧ ((49 : Nat) : Int) + (4) = ((53 : Nat) : Int) := ⟨by decide +kernel, by decide⟩
theorem dc_M_readsPoint_52 : decode prog_9_method_30_code 52 = .ok (.iconst 0, 1) ∧ 52 + 1 = 53 := ⟨by decide +kernel, rfl⟩
theorem dc_M_readsPoint_53 : decode prog_9_method_30_code 53 = .ok (.iload_n 3, 1) ∧ 53 + 1 = 54 := ⟨by decide +kernel, rfl⟩
theorem dc_M_readsPoint_54 : decode prog_9_method_30_code 54 = .ok (.ifCond .eq 7, 3) ∧ ((54 : Nat) : Int) + (7) = ((61 : Nat) : Int) ∧ 54 + 3 = 57 := ⟨by decide +kernel, by decide, rfl⟩
theorem dc_M_readsPoint_57 : decode prog_9_method_30_code 57 = .ok (.iconst 0, 1) ∧ 57 + 1 = 58 := ⟨by decide +kernel, rfl⟩
theorem dc_M_readsPoint_58 : decode prog_9_method_30_code 58 = .ok (.goto 5, 3) ∧ ((58 : Nat) : Int) + (5) = ((63 : Nat) : Int) := ⟨by decide +kernel, by decide⟩
theorem dc_M_readsPoint_61 : decode prog_9_method_30_code 61 = .ok (.bipush (-99), 2) ∧ 61 + 2 = 63 := ⟨by decide +kernel, rfl⟩
theorem dc_M_readsPoint_63 : decode prog_9_method_30_code 63 = .ok (.iload_n 3, 1) ∧ 63 + 1 = 64 := ⟨by decide +kernel, rfl⟩
theorem dc_M_readsPoint_64 : decode prog_9_method_30_code 64 = .ok (.ifCond .eq 9, 3) ∧ ((64 : Nat) : Int) + (9) = ((73 : Nat) : Int) ∧ 64 + 3 = 67 := ⟨by decide +kernel, by decide, rfl⟩
theorem dc_M_readsPoint_67 : decode prog_9_method_30_code 67 = .ok (.sipush 200, 3) ∧ 67 + 3 = 70 := ⟨by decide +kernel, rfl⟩
theorem dc_M_readsPoint_70 : decode prog_9_method_30_code 70 = .ok (.goto 5, 3) ∧ ((70 : Nat) : Int) + (5) = ((75 : Nat) : Int) := ⟨by decide +kernel, by decide⟩
theorem dc_M_readsPoint_73 : decode prog_9_method_30_code 73 = .ok (.bipush 99, 2) ∧ 73 + 2 = 75 := ⟨by decide +kernel, rfl⟩
theorem dc_M_readsPoint_75 : decode prog_9_method_30_code 75 = .ok (.invokevirtual 92, 3) ∧ 75 + 3 = 78 := ⟨by decide +kernel, rfl⟩
theorem dc_M_readsPoint_78 : decode prog_9_method_30_code 78 = .ok (.ifCond .ne 5, 3) ∧ ((78 : Nat) : Int) + (5) = ((83 : Nat) : Int) ∧ 78 + 3 = 81 := ⟨by decide +kernel, by decide, rfl⟩
theorem dc_M_readsPoint_81 : decode prog_9_method_30_code 81 = .ok (.iconst 0, 1) ∧ 81 + 1 = 82 := ⟨by decide +kernel, rfl⟩
theorem dc_M_readsPoint_82 : decode prog_9_method_30_code 82 = .ok (.ireturn, 1) := by decide +kernel
theorem dc_M_readsPoint_83 : decode prog_9_method_30_code 83 = .ok (.aload_n 0, 1) ∧ 83 + 1 = 84 := ⟨by decide +kernel, rfl⟩
theorem dc_M_readsPoint_84 : decode prog_9_method_30_code 84 = .ok (.getfield 89, 3) ∧ 84 + 3 = 87 := ⟨by decide +kernel, rfl⟩
theorem dc_M_readsPoint_87 : decode prog_9_method_30_code 87 = .ok (.istore 5, 2) ∧ 87 + 2 = 89 := ⟨by decide +kernel, rfl⟩
theorem dc_M_readsPoint_89 : decode prog_9_method_30_code 89 = .ok (.aload_n 0, 1) ∧ 89 + 1 = 90 := ⟨by decide +kernel, rfl⟩
theorem dc_M_readsPoint_90 : decode prog_9_method_30_code 90 = .ok (.bipush 59, 2) ∧ 90 + 2 = 92 := ⟨by decide +kernel, rfl⟩
theorem dc_M_readsPoint_92 : decode prog_9_method_30_code 92 = .ok (.invokevirtual 86, 3) ∧ 92 + 3 = 95 := ⟨by decide +kernel, rfl⟩
theorem dc_M_readsPoint_95 : decode prog_9_method_30_code 95 = .ok (.ifCond .ne 5, 3) ∧ ((95 : Nat) : Int) + (5) = ((100 : Nat) : Int) ∧ 95 + 3 = 98 := ⟨by decide +kernel, by decide, rfl⟩
theorem dc_M_readsPoint_98 : decode prog_9_method_30_code 98 = .ok (.iconst 0, 1) ∧ 98 + 1 = 99 := ⟨by decide +kernel, rfl⟩
theorem dc_M_readsPoint_99 : decode prog_9_method_30_code 99 = .ok (.ireturn, 1) := by decide +kernel
theorem dc_M_readsPoint_100 : decode prog_9_method_30_code 100 = .ok (.aload_n 0, 1) ∧ 100 + 1 = 101 := ⟨by decide +kernel, rfl⟩
theorem dc_M_readsPoint_101 : decode prog_9_method_30_code 101 = .ok (.getfield 7, 3) ∧ 101 + 3 = 104 := ⟨by decide +kernel, rfl⟩
theorem dc_M_readsPoint_104 : decode prog_9_method_30_code 104 = .ok (.iload_n 1, 1) ∧ 104 + 1 = 105 := ⟨by decide +kernel, rfl⟩
theorem dc_M_readsPoint_105 : decode prog_9_method_30_code 105 = .ok (.iaload, 1) ∧ 105 + 1 = 106 := ⟨by decide +kernel, rfl⟩
theorem dc_M_readsPoint_106 : decode prog_9_method_30_code 106 = .ok (.bipush 10, 2) ∧ 106 + 2 = 108 := ⟨by decide +kernel, rfl⟩
theorem dc_M_readsPoint_108 : decode prog_9_method_30_code 108 = .ok (.if_icmp .ne 20, 3) ∧ ((108 : Nat) : Int) + (20) = ((128 : Nat) : Int) ∧ 108 + 3 = 111 := ⟨by decide +kernel, by decide, rfl⟩
theorem dc_M_readsPoint_111 : decode prog_9_method_30_code 111 = .ok (.aload_n 0, 1) ∧ 111 + 1 = 112 := ⟨by decide +kernel, rfl⟩
theorem dc_M_readsPoint_112 : decode prog_9_method_30_code 112 = .ok (.iload_n 1, 1) ∧ 112 + 1 = 113 := ⟨by decide +kernel, rfl⟩
theorem dc_M_readsPoint_113 : decode prog_9_method_30_code 113 = .ok (.iload 4, 2) ∧ 113 + 2 = 115 := ⟨by decide +kernel, rfl⟩
theorem dc_M_readsPoint_115 : decode prog_9_method_30_code 115 = .ok (.invokevirtual 42, 3) ∧ 115 + 3 = 118 := ⟨by decide +kernel, rfl⟩
theorem dc_M_readsPoint_118 : decode prog_9_method_30_code 118 = .ok (.ifCond .ne 10, 3) ∧ ((118 : Nat) : Int) + (10) = ((128 : Nat) : Int) ∧ 118 + 3 = 121 := ⟨by decide +kernel, by decide, rfl⟩
theorem dc_M_readsPoint_121 : decode prog_9_method_30_code 121 = .ok (.aload_n 0, 1) ∧ 121 + 1 = 122 := ⟨by decide +kernel, rfl⟩
theorem dc_M_readsPoint_122 : decode prog_9_method_30_code 122 = .ok (.iload_n 2, 1) ∧ 122 + 1 = 123 := ⟨by decide +kernel, rfl⟩
theorem dc_M_readsPoint_123 : decode prog_9_method_30_code 123 = .ok (.putfield 79, 3) ∧ 123 + 3 = 126 := ⟨by decide +kernel, rfl⟩
theorem dc_M_readsPoint_126 : decode prog_9_method_30_code 126 = .ok (.iconst 0, 1) ∧ 126 + 1 = 127 := ⟨by decide +kernel, rfl⟩
theorem dc_M_readsPoint_127 : decode prog_9_method_30_code 127 = .ok (.ireturn, 1) := by decide +kernel
theorem dc_M_readsPoint_128 : decode prog_9_method_30_code 128 = .ok (.aload_n 0, 1) ∧ 128 + 1 = 129 := ⟨by decide +kernel, rfl⟩
theorem dc_M_readsPoint_129 : decode prog_9_method_30_code 129 = .ok (.iload_n 1, 1) ∧ 129 + 1 = 130 := ⟨by decide +kernel, rfl⟩
theorem dc_M_readsPoint_130 : decode prog_9_method_30_code 130 = .ok (.iload 4, 2) ∧ 130 + 2 = 132 := ⟨by decide +kernel, rfl⟩
theorem dc_M_readsPoint_132 : decode prog_9_method_30_code 132 = .ok (.iload 5, 2) ∧ 132 + 2 = 134 := ⟨by decide +kernel, rfl⟩
theorem dc_M_readsPoint_134 : decode prog_9_method_30_code 134 = .ok (.invokevirtual 57, 3) ∧ 134 + 3 = 137 := ⟨by decide +kernel, rfl⟩
theorem dc_M_readsPoint_137 : decode prog_9_method_30_code 137 = .ok (.iconst 1, 1) ∧ 137 + 1 = 138 := ⟨by decide +kernel, rfl⟩
theorem dc_M_readsPoint_138 : decode prog_9_method_30_code 138 = .ok (.ireturn, 1) := by decide +kernel
theorem dc_M_reads_0 : decode prog_9_method_29_code 0 = .ok (.iload_n 1, 1) ∧ 0 + 1 = 1 := ⟨by decide +kernel, rfl⟩
theorem dc_M_reads_1 : decode prog_9_method_29_code 1 = .ok (.ifCond .eq 16, 3) ∧ ((1 : Nat) : Int) + (16) = ((17 : Nat) : Int) ∧ 1 + 3 = 4 := ⟨by decide +kernel, by decide, rfl⟩
theorem dc_M_reads_4 : decode prog_9_method_29_code 4 = .ok (.aload_n 0, 1) ∧ 4 + 1 = 5 := ⟨by decide +kernel, rfl⟩
theorem dc_M_reads_5 : decode prog_9_method_29_code 5 = .ok (.bipush 45, 2) ∧ 5 + 2 = 7 := ⟨by decide +kernel, rfl⟩
theorem dc_M_reads_7 : decode prog_9_method_29_code 7 = .ok (.invokevirtual 86, 3) ∧ 7 + 3 = 10 := ⟨by decide +kernel, rfl⟩
theorem dc_M_reads_10 : decode prog_9_method_29_code 10 = .ok (.ifCond .eq 7, 3) ∧ ((10 : Nat) : Int) + (7) = ((17 : Nat) : Int) ∧ 10 + 3 = 13 := ⟨by decide +kernel, by decide, rfl⟩
theorem dc_M_reads_13 : decode prog_9_method_29_code 13 = .ok (.iconst 1, 1) ∧ 13 + 1 = 14 := ⟨by decide +kernel, rfl⟩
theorem dc_M_reads_14 : decode prog_9_method_29_code 14 = .ok (.goto 4, 3) ∧ ((14 : Nat) : Int) + (4) = ((18 : Nat) : Int) := ⟨by decide +kernel, by decide⟩
theorem dc_M_reads_17 : decode prog_9_method_29_code 17 = .ok (.iconst 0, 1) ∧ 17 + 1 = 18 := ⟨by decide +kernel, rfl⟩
theorem dc_M_reads_18 : decode prog_9_method_29_code 18 = .ok (.istore 4, 2) ∧ 18 + 2 = 20 := ⟨by decide +kernel, rfl⟩
theorem dc_M_reads_20 : decode prog_9_method_29_code 20 = .ok (.aload_n 0, 1) ∧ 20 + 1 = 21 := ⟨by decide +kernel, rfl⟩
theorem dc_M_reads_21 : decode prog_9_method_29_code 21 = .ok (.invokevirtual 82, 3) ∧ 21 + 3 = 24 := ⟨by decide +kernel, rfl⟩
theorem dc_M_reads_24 : decode prog_9_method_29_code 24 = .ok (.bipush 48, 2) ∧ 24 + 2 = 26 := ⟨by decide +kernel, rfl⟩
theorem dc_M_reads_26 : decode prog_9_method_29_code 26 = .ok (.bipush 57, 2) ∧ 26 + 2 = 28 := ⟨by decide +kernel, rfl⟩
theorem dc_M_reads_28 : decode prog_9_method_29_code 28 = .ok (.invokestatic 31, 3) ∧ 28 + 3 = 31 := ⟨by decide +kernel, rfl⟩
theorem dc_M_reads_31 : decode prog_9_method_29_code 31 = .ok (.ifCond .ne 5, 3) ∧ ((31 : Nat) : Int) + (5) = ((36 : Nat) : Int) ∧ 31 + 3 = 34 := ⟨by decide +kernel, by decide, rfl⟩
theorem dc_M_reads_34 : decode prog_9_method_29_code 34 = .ok (.iconst 0, 1) ∧ 34 + 1 = 35 := ⟨by decide +kernel, rfl⟩
theorem dc_M_reads_35 : decode prog_9_method_29_code 35 = .ok (.ireturn, 1) := by decide +kernel
theorem dc_M_reads_36 : decode prog_9_method_29_code 36 = .ok (.aload_n 0, 1) ∧ 36 + 1 = 37 := ⟨by decide +kernel, rfl⟩
theorem dc_M_reads_37 : decode prog_9_method_29_code 37 = .ok (.getfield 79, 3) ∧ 37 + 3 = 40 := ⟨by decide +kernel, rfl⟩
theorem dc_M_reads_40 : decode prog_9_method_29_code 40 = .ok (.istore 5, 2) ∧ 40 + 2 = 42 := ⟨by decide +kernel, rfl⟩
theorem dc_M_reads_42 : decode prog_9_method_29_code 42 = .ok (.aload_n 0, 1) ∧ 42 + 1 = 43 := ⟨by decide +kernel, rfl⟩
theorem dc_M_reads_43 : decode prog_9_method_29_code 43 = .ok (.iconst 0, 1) ∧ 43 + 1 = 44 := ⟨by decide +kernel, rfl⟩
theorem dc_M_reads_44 : decode prog_9_method_29_code 44 = .ok (.putfield 89, 3) ∧ 44 + 3 = 47 := ⟨by decide +kernel, rfl⟩
theorem dc_M_reads_47 : decode prog_9_method_29_code 47 = .ok (.aload_n 0, 1) ∧ 47 + 1 = 48 := ⟨by decide +kernel, rfl⟩
theorem dc_M_reads_48 : decode prog_9_method_29_code 48 = .ok (.getfield 79, 3) ∧ 48 + 3 = 51 := ⟨by decide +kernel, rfl⟩
theorem dc_M_reads_51 : decode prog_9_method_29_code 51 = .ok (.aload_n 0, 1) ∧ 51 + 1 = 52 := ⟨by decide +kernel, rfl⟩
theorem dc_M_reads_52 : decode prog_9_method_29_code 52 = .ok (.getfield 76, 3) ∧ 52 + 3 = 55 := ⟨by decide +kernel, rfl⟩
theorem dc_M_reads_55 : decode prog_9_method_29_code 55 = .ok (.if_icmp .ge 70, 3) ∧ ((55 : Nat) : Int) + (70) = ((125 : Nat) : Int) ∧ 55 + 3 = 58 := ⟨by decide +kernel, by decide, rfl⟩
theorem dc_M_reads_58 : decode prog_9_method_29_code 58 = .ok (.aload_n 0, 1) ∧ 58 + 1 = 59 := ⟨by decide +kernel, rfl⟩
theorem dc_M_reads_59 : decode prog_9_method_29_code 59 = .ok (.getfield 79, 3) ∧ 59 + 3 = 62 := ⟨by decide +kernel, rfl⟩
theorem dc_M_reads_62 : decode prog_9_method_29_code 62 = .ok (.iload 5, 2) ∧ 62 + 2 = 64 := ⟨by decide +kernel, rfl⟩
theorem dc_M_reads_64 : decode prog_9_method_29_code 64 = .ok (.isub, 1) ∧ 64 + 1 = 65 := ⟨by decide +kernel, rfl⟩
theorem dc_M_reads_65 : decode prog_9_method_29_code 65 = .ok (.iconst 5, 1) ∧ 65 + 1 = 66 := ⟨by decide +kernel, rfl⟩
theorem dc_M_reads_66 : decode prog_9_method_29_code 66 = .ok (.if_icmp .ge 59, 3) ∧ ((66 : Nat) : Int) + (59) = ((125 : Nat) : Int) ∧ 66 + 3 = 69 := ⟨by decide +kernel, by decide, rfl⟩
theorem dc_M_reads_69 : decode prog_9_method_29_code 69 = .ok (.aload_n 0, 1) ∧ 69 + 1 = 70 := ⟨by decide +kernel, rfl⟩
theorem dc_M_reads_70 : decode prog_9_method_29_code 70 = .ok (.getfield 22, 3) ∧ 70 + 3 = 73 := ⟨by decide +kernel, rfl⟩
theorem dc_M_reads_73 : decode prog_9_method_29_code 73 = .ok (.aload_n 0, 1) ∧ 73 + 1 = 74 := ⟨by decide +kernel, rfl⟩
theorem dc_M_reads_74 : decode prog_9_method_29_code 74 = .ok (.getfield 79, 3) ∧ 74 + 3 = 77 := ⟨by decide +kernel, rfl⟩
theorem dc_M_reads_77 : decode prog_9_method_29_code 77 = .ok (.baload, 1) ∧ 77 + 1 = 78 := ⟨by decide +kernel, rfl⟩
theorem dc_M_reads_78 : decode prog_9_method_29_code 78 = .ok (.bipush 48, 2) ∧ 78 + 2 = 80 := ⟨by decide +kernel, rfl⟩
theorem dc_M_reads_80 : decode prog_9_method_29_code 80 = .ok (.bipush 57, 2) ∧ 80 + 2 = 82 := ⟨by decide +kernel, rfl⟩
theorem dc_M_reads_82 : decode prog_9_method_29_code 82 = .ok (.invokestatic 31, 3) ∧ 82 + 3 = 85 := ⟨by decide +kernel, rfl⟩
theorem dc_M_reads_85 : decode prog_9_method_29_code 85 = .ok (.ifCond .eq 40, 3) ∧ ((85 : Nat) : Int) + (40) = ((125 : Nat) : Int) ∧ 85 + 3 = 88 := ⟨by decide +kernel, by decide, rfl⟩
theorem dc_M_reads_88 : decode prog_9_method_29_code 88 = .ok (.aload_n 0, 1) ∧ 88 + 1 = 89 := ⟨by decide +kernel, rfl⟩
theorem dc_M_reads_89 : decode prog_9_method_29_code 89 = .ok (.bipush 10, 2) ∧ 89 + 2 = 91 := ⟨by decide +kernel, rfl⟩
theorem dc_M_reads_91 : decode prog_9_method_29_code 91 = .ok (.aload_n 0, 1) ∧ 91 + 1 = 92 := ⟨by decide +kernel, rfl⟩
theorem dc_M_reads_92 : decode prog_9_method_29_code 92 = .ok (.getfield 89, 3) ∧ 92 + 3 = 95 := ⟨by decide +kernel, rfl⟩
theorem dc_M_reads_95 : decode prog_9_method_29_code 95 = .ok (.imul, 1) ∧ 95 + 1 = 96 := ⟨by decide +kernel, rfl⟩
theorem dc_M_reads_96 : decode prog_9_method_29_code 96 = .ok (.aload_n 0, 1) ∧ 96 + 1 = 97 := ⟨by decide +kernel, rfl⟩
theorem dc_M_reads_97 : decode prog_9_method_29_code 97 = .ok (.getfield 22, 3) ∧ 97 + 3 = 100 := ⟨by decide +kernel, rfl⟩
theorem dc_M_reads_100 : decode prog_9_method_29_code 100 = .ok (.aload_n 0, 1) ∧ 100 + 1 = 101 := ⟨by decide +kernel, rfl⟩
theorem dc_M_reads_101 : decode prog_9_method_29_code 101 = .ok (.getfield 79, 3) ∧ 101 + 3 = 104 := ⟨by decide +kernel, rfl⟩
theorem dc_M_reads_104 : decode prog_9_method_29_code 104 = .ok (.baload, 1) ∧ 104 + 1 = 105 := ⟨by decide +kernel, rfl⟩
theorem dc_M_reads_105 : decode prog_9_method_29_code 105 = .ok (.iadd, 1) ∧ 105 + 1 = 106 := ⟨by decide +kernel, rfl⟩
theorem dc_M_reads_106 : decode prog_9_method_29_code 106 = .ok (.bipush 48, 2) ∧ 106 + 2 = 108 := ⟨by decide +kernel, rfl⟩
theorem dc_M_reads_108 : decode prog_9_method_29_code 108 = .ok (.isub, 1) ∧ 108 + 1 = 109 := ⟨by decide +kernel, rfl⟩
theorem dc_M_reads_109 : decode prog_9_method_29_code 109 = .ok (.putfield 89, 3) ∧ 109 + 3 = 112 := ⟨by decide +kernel, rfl⟩
theorem dc_M_reads_112 : decode prog_9_method_29_code 112 = .ok (.aload_n 0, 1) ∧ 112 + 1 = 113 := ⟨by decide +kernel, rfl⟩
theorem dc_M_reads_113 : decode prog_9_method_29_code 113 = .ok (.dup, 1) ∧ 113 + 1 = 114 := ⟨by decide +kernel, rfl⟩
theorem dc_M_reads_114 : decode prog_9_method_29_code 114 = .ok (.getfield 79, 3) ∧ 114 + 3 = 117 := ⟨by decide +kernel, rfl⟩
theorem dc_M_reads_117 : decode prog_9_method_29_code 117 = .ok (.iconst 1, 1) ∧ 117 + 1 = 118 := ⟨by decide +kernel, rfl⟩
theorem dc_M_reads_118 : decode prog_9_method_29_code 118 = .ok (.iadd, 1) ∧ 118 + 1 = 119 := ⟨by decide +kernel, rfl⟩
theorem dc_M_reads_119 : decode prog_9_method_29_code 119 = .ok (.putfield 79, 3) ∧ 119 + 3 = 122 := ⟨by decide +kernel, rfl⟩
theorem dc_M_reads_122 : decode prog_9_method_29_code 122 = .ok (.goto (-75), 3) ∧ ((122 : Nat) : Int) + (-75) = ((47 : Nat) : Int) := ⟨by decide +kernel, by decide⟩
theorem dc_M_reads_125 : decode prog_9_method_29_code 125 = .ok (.aload_n 0, 1) ∧ 125 + 1 = 126 := ⟨by decide +kernel, rfl⟩
theorem dc_M_reads_126 : decode prog_9_method_29_code 126 = .ok (.iload 4, 2) ∧ 126 + 2 = 128 := ⟨by decide +kernel, rfl⟩
theorem dc_M_reads_128 : decode prog_9_method_29_code 128 = .ok (.ifCond .eq 11, 3) ∧ ((128 : Nat) : Int) + (11) = ((139 : Nat) : Int) ∧ 128 + 3 = 131 := ⟨by decide +kernel, by decide, rfl⟩
theorem dc_M_reads_131 : decode prog_9_method_29_code 131 = .ok (.aload_n 0, 1) ∧ 131 + 1 = 132 := ⟨by decide +kernel, rfl⟩
theorem dc_M_reads_132 : decode prog_9_method_29_code 132 = .ok (.getfield 89, 3) ∧ 132 + 3 = 135 := ⟨by decide +kernel, rfl⟩
theorem dc_M_reads_135 : decode prog_9_method_29_code 135 = .ok (.ineg, 1) ∧ 135 + 1 = 136 := ⟨by decide +kernel, rfl⟩
theorem dc_M_reads_136 : decode prog_9_method_29_code 136 = .ok (.goto 7, 3) ∧ ((136 : Nat) : Int) + (7) = ((143 : Nat) : Int) := ⟨by decide +kernel, by decide⟩
theorem dc_M_reads_139 : decode prog_9_method_29_code 139 = .ok (.aload_n 0, 1) ∧ 139 + 1 = 140 := ⟨by decide +kernel, rfl⟩
theorem dc_M_reads_140 : decode prog_9_method_29_code 140 = .ok (.getfield 89, 3) ∧ 140 + 3 = 143 := ⟨by decide +kernel, rfl⟩
theorem dc_M_reads_143 : decode prog_9_method_29_code 143 = .ok (.putfield 89, 3) ∧ 143 + 3 = 146 := ⟨by decide +kernel, rfl⟩
theorem dc_M_reads_146 : decode prog_9_method_29_code 146 = .ok (.aload_n 0, 1) ∧ 146 + 1 = 147 := ⟨by decide +kernel, rfl⟩
theorem dc_M_reads_147 : decode prog_9_method_29_code 147 = .ok (.getfield 89, 3) ∧ 147 + 3 = 150 := ⟨by decide +kernel, rfl⟩
theorem dc_M_reads_150 : decode prog_9_method_29_code 150 = .ok (.iload_n 2, 1) ∧ 150 + 1 = 151 := ⟨by decide +kernel, rfl⟩
theorem dc_M_reads_151 : decode prog_9_method_29_code 151 = .ok (.iload_n 3, 1) ∧ 151 + 1 = 152 := ⟨by decide +kernel, rfl⟩
theorem dc_M_reads_152 : decode prog_9_method_29_code 152 = .ok (.invokestatic 31, 3) ∧ 152 + 3 = 155 := ⟨by decide +kernel, rfl⟩
theorem dc_M_reads_155 : decode prog_9_method_29_code 155 = .ok (.ifCond .eq 26, 3) ∧ ((155 : Nat) : Int) + (26) = ((181 : Nat) : Int) ∧ 155 + 3 = 158 := ⟨by decide +kernel, by decide, rfl⟩
theorem dc_M_reads_158 : decode prog_9_method_29_code 158 = .ok (.aload_n 0, 1) ∧ 158 + 1 = 159 := ⟨by decide +kernel, rfl⟩
theorem dc_M_reads_159 : decode prog_9_method_29_code 159 = .ok (.getfield 22, 3) ∧ 159 + 3 = 162 := ⟨by decide +kernel, rfl⟩
theorem dc_M_reads_162 : decode prog_9_method_29_code 162 = .ok (.iload 5, 2) ∧ 162 + 2 = 164 := ⟨by decide +kernel, rfl⟩
theorem dc_M_reads_164 : decode prog_9_method_29_code 164 = .ok (.baload, 1) ∧ 164 + 1 = 165 := ⟨by decide +kernel, rfl⟩
theorem dc_M_reads_165 : decode prog_9_method_29_code 165 = .ok (.bipush 48, 2) ∧ 165 + 2 = 167 := ⟨by decide +kernel, rfl⟩
theorem dc_M_reads_167 : decode prog_9_method_29_code 167 = .ok (.if_icmp .ne 22, 3) ∧ ((167 : Nat) : Int) + (22) = ((189 : Nat) : Int) ∧ 167 + 3 = 170 := ⟨by decide +kernel, by decide, rfl⟩
theorem dc_M_reads_170 : decode prog_9_method_29_code 170 = .ok (.aload_n 0, 1) ∧ 170 + 1 = 171 := ⟨by decide +kernel, rfl⟩
theorem dc_M_reads_171 : decode prog_9_method_29_code 171 = .ok (.getfield 79, 3) ∧ 171 + 3 = 174 := ⟨by decide +kernel, rfl⟩
theorem dc_M_reads_174 : decode prog_9_method_29_code 174 = .ok (.iload 5, 2) ∧ 174 + 2 = 176 := ⟨by decide +kernel, rfl⟩
theorem dc_M_reads_176 : decode prog_9_method_29_code 176 = .ok (.iconst 1, 1) ∧ 176 + 1 = 177 := ⟨by decide +kernel, rfl⟩
theorem dc_M_reads_177 : decode prog_9_method_29_code 177 = .ok (.iadd, 1) ∧ 177 + 1 = 178 := ⟨by decide +kernel, rfl⟩
theorem dc_M_reads_178 : decode prog_9_method_29_code 178 = .ok (.if_icmp .le 11, 3) ∧ ((178 : Nat) : Int) + (11) = ((189 : Nat) : Int) ∧ 178 + 3 = 181 := ⟨by decide +kernel, by decide, rfl⟩
theorem dc_M_reads_181 : decode prog_9_method_29_code 181 = .ok (.aload_n 0, 1) ∧ 181 + 1 = 182 := ⟨by decide +kernel, rfl⟩
theorem dc_M_reads_182 : decode prog_9_method_29_code 182 = .ok (.iload 5, 2) ∧ 182 + 2 = 184 := ⟨by decide +kernel, rfl⟩
theorem dc_M_reads_184 : decode prog_9_method_29_code 184 = .ok (.putfield 79, 3) ∧ 184 + 3 = 187 := ⟨by decide +kernel, rfl⟩
theorem dc_M_reads_187 : decode prog_9_method_29_code 187 = .ok (.iconst 0, 1) ∧ 187 + 1 = 188 := ⟨by decide +kernel, rfl⟩
theorem dc_M_reads_188 : decode prog_9_method_29_code 188 = .ok (.ireturn, 1) := by decide +kernel
theorem dc_M_reads_189 : decode prog_9_method_29_code 189 = .ok (.iconst 1, 1) ∧ 189 + 1 = 190 := ⟨by decide +kernel, rfl⟩
theorem dc_M_reads_190 : decode prog_9_method_29_code 190 = .ok (.ireturn, 1) := by decide +kernel
theorem dc_M_takes_0 : decode prog_9_method_28_code 0 = .ok (.aload_n 0, 1) ∧ 0 + 1 = 1 := ⟨by decide +kernel, rfl⟩
theorem dc_M_takes_1 : decode prog_9_method_28_code 1 = .ok (.invokevirtual 82, 3) ∧ 1 + 3 = 4 := ⟨by decide +kernel, rfl⟩
theorem dc_M_takes_4 : decode prog_9_method_28_code 4 = .ok (.iload_n 1, 1) ∧ 4 + 1 = 5 := ⟨by decide +kernel, rfl⟩
theorem dc_M_takes_5 : decode prog_9_method_28_code 5 = .ok (.if_icmp .ne 7, 3) ∧ ((5 : Nat) : Int) + (7) = ((12 : Nat) : Int) ∧ 5 + 3 = 8 := ⟨by decide +kernel, by decide, rfl⟩
theorem dc_M_takes_8 : decode prog_9_method_28_code 8 = .ok (.iconst 1, 1) ∧ 8 + 1 = 9 := ⟨by decide +kernel, rfl⟩
theorem dc_M_takes_9 : decode prog_9_method_28_code 9 = .ok (.goto 4, 3) ∧ ((9 : Nat) : Int) + (4) = ((13 : Nat) : Int) := ⟨by decide +kernel, by decide⟩
theorem dc_M_takes_12 : decode prog_9_method_28_code 12 = .ok (.iconst 0, 1) ∧ 12 + 1 = 13 := ⟨by decide +kernel, rfl⟩
theorem dc_M_takes_13 : decode prog_9_method_28_code 13 = .ok (.istore_n 2, 1) ∧ 13 + 1 = 14 := ⟨by decide +kernel, rfl⟩
theorem dc_M_takes_14 : decode prog_9_method_28_code 14 = .ok (.aload_n 0, 1) ∧ 14 + 1 = 15 := ⟨by decide +kernel, rfl⟩
theorem dc_M_takes_15 : decode prog_9_method_28_code 15 = .ok (.dup, 1) ∧ 15 + 1 = 16 := ⟨by decide +kernel, rfl⟩
theorem dc_M_takes_16 : decode prog_9_method_28_code 16 = .ok (.getfield 79, 3) ∧ 16 + 3 = 19 := ⟨by decide +kernel, rfl⟩
theorem dc_M_takes_19 : decode prog_9_method_28_code 19 = .ok (.iload_n 2, 1) ∧ 19 + 1 = 20 := ⟨by decide +kernel, rfl⟩
theorem dc_M_takes_20 : decode prog_9_method_28_code 20 = .ok (.ifCond .eq 7, 3) ∧ ((20 : Nat) : Int) + (7) = ((27 : Nat) : Int) ∧ 20 + 3 = 23 := ⟨by decide +kernel, by decide, rfl⟩
theorem dc_M_takes_23 : decode prog_9_method_28_code 23 = .ok (.iconst 1, 1) ∧ 23 + 1 = 24 := ⟨by decide +kernel, rfl⟩
theorem dc_M_takes_24 : decode prog_9_method_28_code 24 = .ok (.goto 4, 3) ∧ ((24 : Nat) : Int) + (4) = ((28 : Nat) : Int) := ⟨by decide +kernel, by decide⟩
theorem dc_M_takes_27 : decode prog_9_method_28_code 27 = .ok (.iconst 0, 1) ∧ 27 + 1 = 28 := ⟨by decide +kernel, rfl⟩
theorem dc_M_takes_28 : decode prog_9_method_28_code 28 = .ok (.iadd, 1) ∧ 28 + 1 = 29 := ⟨by decide +kernel, rfl⟩
theorem dc_M_takes_29 : decode prog_9_method_28_code 29 = .ok (.putfield 79, 3) ∧ 29 + 3 = 32 := ⟨by decide +kernel, rfl⟩
theorem dc_M_takes_32 : decode prog_9_method_28_code 32 = .ok (.iload_n 2, 1) ∧ 32 + 1 = 33 := ⟨by decide +kernel, rfl⟩
theorem dc_M_takes_33 : decode prog_9_method_28_code 33 = .ok (.ireturn, 1) := by decide +kernel
theorem dc_M_swaps_0 : decode prog_9_method_10_code 0 = .ok (.iconst 0, 1) ∧ 0 + 1 = 1 := ⟨by decide +kernel, rfl⟩
theorem dc_M_swaps_1 : decode prog_9_method_10_code 1 = .ok (.istore_n 1, 1) ∧ 1 + 1 = 2 := ⟨by decide +kernel, rfl⟩
theorem dc_M_swaps_2 : decode prog_9_method_10_code 2 = .ok (.iload_n 1, 1) ∧ 2 + 1 = 3 := ⟨by decide +kernel, rfl⟩
theorem dc_M_swaps_3 : decode prog_9_method_10_code 3 = .ok (.bipush 80, 2) ∧ 3 + 2 = 5 := ⟨by decide +kernel, rfl⟩
theorem dc_M_swaps_5 : decode prog_9_method_10_code 5 = .ok (.if_icmp .ge 35, 3) ∧ ((5 : Nat) : Int) + (35) = ((40 : Nat) : Int) ∧ 5 + 3 = 8 := ⟨by decide +kernel, by decide, rfl⟩
theorem dc_M_swaps_8 : decode prog_9_method_10_code 8 = .ok (.aload_n 0, 1) ∧ 8 + 1 = 9 := ⟨by decide +kernel, rfl⟩
theorem dc_M_swaps_9 : decode prog_9_method_10_code 9 = .ok (.getfield 7, 3) ∧ 9 + 3 = 12 := ⟨by decide +kernel, rfl⟩
theorem dc_M_swaps_12 : decode prog_9_method_10_code 12 = .ok (.iload_n 1, 1) ∧ 12 + 1 = 13 := ⟨by decide +kernel, rfl⟩
theorem dc_M_swaps_13 : decode prog_9_method_10_code 13 = .ok (.iaload, 1) ∧ 13 + 1 = 14 := ⟨by decide +kernel, rfl⟩
theorem dc_M_swaps_14 : decode prog_9_method_10_code 14 = .ok (.istore_n 2, 1) ∧ 14 + 1 = 15 := ⟨by decide +kernel, rfl⟩
theorem dc_M_swaps_15 : decode prog_9_method_10_code 15 = .ok (.aload_n 0, 1) ∧ 15 + 1 = 16 := ⟨by decide +kernel, rfl⟩
theorem dc_M_swaps_16 : decode prog_9_method_10_code 16 = .ok (.getfield 7, 3) ∧ 16 + 3 = 19 := ⟨by decide +kernel, rfl⟩
theorem dc_M_swaps_19 : decode prog_9_method_10_code 19 = .ok (.iload_n 1, 1) ∧ 19 + 1 = 20 := ⟨by decide +kernel, rfl⟩
theorem dc_M_swaps_20 : decode prog_9_method_10_code 20 = .ok (.aload_n 0, 1) ∧ 20 + 1 = 21 := ⟨by decide +kernel, rfl⟩
theorem dc_M_swaps_21 : decode prog_9_method_10_code 21 = .ok (.getfield 19, 3) ∧ 21 + 3 = 24 := ⟨by decide +kernel, rfl⟩
theorem dc_M_swaps_24 : decode prog_9_method_10_code 24 = .ok (.iload_n 1, 1) ∧ 24 + 1 = 25 := ⟨by decide +kernel, rfl⟩
theorem dc_M_swaps_25 : decode prog_9_method_10_code 25 = .ok (.iaload, 1) ∧ 25 + 1 = 26 := ⟨by decide +kernel, rfl⟩
theorem dc_M_swaps_26 : decode prog_9_method_10_code 26 = .ok (.iastore, 1) ∧ 26 + 1 = 27 := ⟨by decide +kernel, rfl⟩
theorem dc_M_swaps_27 : decode prog_9_method_10_code 27 = .ok (.aload_n 0, 1) ∧ 27 + 1 = 28 := ⟨by decide +kernel, rfl⟩
theorem dc_M_swaps_28 : decode prog_9_method_10_code 28 = .ok (.getfield 19, 3) ∧ 28 + 3 = 31 := ⟨by decide +kernel, rfl⟩
theorem dc_M_swaps_31 : decode prog_9_method_10_code 31 = .ok (.iload_n 1, 1) ∧ 31 + 1 = 32 := ⟨by decide +kernel, rfl⟩
theorem dc_M_swaps_32 : decode prog_9_method_10_code 32 = .ok (.iload_n 2, 1) ∧ 32 + 1 = 33 := ⟨by decide +kernel, rfl⟩
theorem dc_M_swaps_33 : decode prog_9_method_10_code 33 = .ok (.iastore, 1) ∧ 33 + 1 = 34 := ⟨by decide +kernel, rfl⟩
theorem dc_M_swaps_34 : decode prog_9_method_10_code 34 = .ok (.iinc 1 1, 3) ∧ 34 + 3 = 37 := ⟨by decide +kernel, rfl⟩
theorem dc_M_swaps_37 : decode prog_9_method_10_code 37 = .ok (.goto (-35), 3) ∧ ((37 : Nat) : Int) + (-35) = ((2 : Nat) : Int) := ⟨by decide +kernel, by decide⟩
theorem dc_M_swaps_40 : decode prog_9_method_10_code 40 = .ok (.return_, 1) := by decide +kernel
theorem dc_M_moveTo_0 : decode prog_9_method_40_code 0 = .ok (.iload_n 1, 1) ∧ 0 + 1 = 1 := ⟨by decide +kernel, rfl⟩
theorem dc_M_moveTo_1 : decode prog_9_method_40_code 1 = .ok (.invokestatic 65, 3) ∧ 1 + 3 = 4 := ⟨by decide +kernel, rfl⟩
theorem dc_M_moveTo_4 : decode prog_9_method_40_code 4 = .ok (.ifCond .ne 6, 3) ∧ ((4 : Nat) : Int) + (6) = ((10 : Nat) : Int) ∧ 4 + 3 = 7 := ⟨by decide +kernel, by decide, rfl⟩
theorem dc_M_moveTo_7 : decode prog_9_method_40_code 7 = .ok (.ldc 64, 2) ∧ 7 + 2 = 9 := ⟨by decide +kernel, rfl⟩
theorem dc_M_moveTo_9 : decode prog_9_method_40_code 9 = .ok (.ireturn, 1) := by decide +kernel
theorem dc_M_moveTo_10 : decode prog_9_method_40_code 10 = .ok (.aload_n 0, 1) ∧ 10 + 1 = 11 := ⟨by decide +kernel, rfl⟩
theorem dc_M_moveTo_11 : decode prog_9_method_40_code 11 = .ok (.iload_n 1, 1) ∧ 11 + 1 = 12 := ⟨by decide +kernel, rfl⟩
theorem dc_M_moveTo_12 : decode prog_9_method_40_code 12 = .ok (.invokevirtual 129, 3) ∧ 12 + 3 = 15 := ⟨by decide +kernel, rfl⟩
theorem dc_M_moveTo_15 : decode prog_9_method_40_code 15 = .ok (.invokestatic 65, 3) ∧ 15 + 3 = 18 := ⟨by decide +kernel, rfl⟩
theorem dc_M_moveTo_18 : decode prog_9_method_40_code 18 = .ok (.ifCond .ne 6, 3) ∧ ((18 : Nat) : Int) + (6) = ((24 : Nat) : Int) ∧ 18 + 3 = 21 := ⟨by decide +kernel, by decide, rfl⟩
theorem dc_M_moveTo_21 : decode prog_9_method_40_code 21 = .ok (.ldc 30, 2) ∧ 21 + 2 = 23 := ⟨by decide +kernel, rfl⟩
theorem dc_M_moveTo_23 : decode prog_9_method_40_code 23 = .ok (.ireturn, 1) := by decide +kernel
theorem dc_M_moveTo_24 : decode prog_9_method_40_code 24 = .ok (.aload_n 0, 1) ∧ 24 + 1 = 25 := ⟨by decide +kernel, rfl⟩
theorem dc_M_moveTo_25 : decode prog_9_method_40_code 25 = .ok (.invokevirtual 47, 3) ∧ 25 + 3 = 28 := ⟨by decide +kernel, rfl⟩
theorem dc_M_moveTo_28 : decode prog_9_method_40_code 28 = .ok (.aload_n 0, 1) ∧ 28 + 1 = 29 := ⟨by decide +kernel, rfl⟩
theorem dc_M_moveTo_29 : decode prog_9_method_40_code 29 = .ok (.getfield 7, 3) ∧ 29 + 3 = 32 := ⟨by decide +kernel, rfl⟩
theorem dc_M_moveTo_32 : decode prog_9_method_40_code 32 = .ok (.bipush 10, 2) ∧ 32 + 2 = 34 := ⟨by decide +kernel, rfl⟩
theorem dc_M_moveTo_34 : decode prog_9_method_40_code 34 = .ok (.iaload, 1) ∧ 34 + 1 = 35 := ⟨by decide +kernel, rfl⟩
theorem dc_M_moveTo_35 : decode prog_9_method_40_code 35 = .ok (.istore_n 2, 1) ∧ 35 + 1 = 36 := ⟨by decide +kernel, rfl⟩
theorem dc_M_moveTo_36 : decode prog_9_method_40_code 36 = .ok (.aload_n 0, 1) ∧ 36 + 1 = 37 := ⟨by decide +kernel, rfl⟩
theorem dc_M_moveTo_37 : decode prog_9_method_40_code 37 = .ok (.iload_n 1, 1) ∧ 37 + 1 = 38 := ⟨by decide +kernel, rfl⟩
theorem dc_M_moveTo_38 : decode prog_9_method_40_code 38 = .ok (.invokevirtual 136, 3) ∧ 38 + 3 = 41 := ⟨by decide +kernel, rfl⟩
theorem dc_M_moveTo_41 : decode prog_9_method_40_code 41 = .ok (.aload_n 0, 1) ∧ 41 + 1 = 42 := ⟨by decide +kernel, rfl⟩
theorem dc_M_moveTo_42 : decode prog_9_method_40_code 42 = .ok (.getfield 7, 3) ∧ 42 + 3 = 45 := ⟨by decide +kernel, rfl⟩
theorem dc_M_moveTo_45 : decode prog_9_method_40_code 45 = .ok (.bipush 10, 2) ∧ 45 + 2 = 47 := ⟨by decide +kernel, rfl⟩
theorem dc_M_moveTo_47 : decode prog_9_method_40_code 47 = .ok (.iaload, 1) ∧ 47 + 1 = 48 := ⟨by decide +kernel, rfl⟩
theorem dc_M_moveTo_48 : decode prog_9_method_40_code 48 = .ok (.iload_n 2, 1) ∧ 48 + 1 = 49 := ⟨by decide +kernel, rfl⟩
theorem dc_M_moveTo_49 : decode prog_9_method_40_code 49 = .ok (.isub, 1) ∧ 49 + 1 = 50 := ⟨by decide +kernel, rfl⟩
theorem dc_M_moveTo_50 : decode prog_9_method_40_code 50 = .ok (.ireturn, 1) := by decide +kernel
theorem dc_M_aimOf_0 : decode prog_9_method_38_code 0 = .ok (.iload_n 1, 1) ∧ 0 + 1 = 1 := ⟨by decide +kernel, rfl⟩
theorem dc_M_aimOf_1 : decode prog_9_method_38_code 1 = .ok (.aload_n 0, 1) ∧ 1 + 1 = 2 := ⟨by decide +kernel, rfl⟩
theorem dc_M_aimOf_2 : decode prog_9_method_38_code 2 = .ok (.iload_n 1, 1) ∧ 2 + 1 = 3 := ⟨by decide +kernel, rfl⟩
theorem dc_M_aimOf_3 : decode prog_9_method_38_code 3 = .ok (.invokevirtual 126, 3) ∧ 3 + 3 = 6 := ⟨by decide +kernel, rfl⟩
theorem dc_M_aimOf_6 : decode prog_9_method_38_code 6 = .ok (.iadd, 1) ∧ 6 + 1 = 7 := ⟨by decide +kernel, rfl⟩
theorem dc_M_aimOf_7 : decode prog_9_method_38_code 7 = .ok (.ireturn, 1) := by decide +kernel
theorem dc_M_errorOf_0 : decode prog_9_method_34_code 0 = .ok (.aload_n 0, 1) ∧ 0 + 1 = 1 := ⟨by decide +kernel, rfl⟩
theorem dc_M_errorOf_1 : decode prog_9_method_34_code 1 = .ok (.getfield 7, 3) ∧ 1 + 3 = 4 := ⟨by decide +kernel, rfl⟩
theorem dc_M_errorOf_4 : decode prog_9_method_34_code 4 = .ok (.bipush 42, 2) ∧ 4 + 2 = 6 := ⟨by decide +kernel, rfl⟩
theorem dc_M_errorOf_6 : decode prog_9_method_34_code 6 = .ok (.iaload, 1) ∧ 6 + 1 = 7 := ⟨by decide +kernel, rfl⟩
theorem dc_M_errorOf_7 : decode prog_9_method_34_code 7 = .ok (.ifCond .ne 5, 3) ∧ ((7 : Nat) : Int) + (5) = ((12 : Nat) : Int) ∧ 7 + 3 = 10 := ⟨by decide +kernel, by decide, rfl⟩
theorem dc_M_errorOf_10 : decode prog_9_method_34_code 10 = .ok (.iconst 0, 1) ∧ 10 + 1 = 11 := ⟨by decide +kernel, rfl⟩
theorem dc_M_errorOf_11 : decode prog_9_method_34_code 11 = .ok (.ireturn, 1) := by decide +kernel
theorem dc_M_errorOf_12 : decode prog_9_method_34_code 12 = .ok (.aload_n 0, 1) ∧ 12 + 1 = 13 := ⟨by decide +kernel, rfl⟩
theorem dc_M_errorOf_13 : decode prog_9_method_34_code 13 = .ok (.bipush 42, 2) ∧ 13 + 2 = 15 := ⟨by decide +kernel, rfl⟩
theorem dc_M_errorOf_15 : decode prog_9_method_34_code 15 = .ok (.iload_n 1, 1) ∧ 15 + 1 = 16 := ⟨by decide +kernel, rfl⟩
theorem dc_M_errorOf_16 : decode prog_9_method_34_code 16 = .ok (.invokevirtual 39, 3) ∧ 16 + 3 = 19 := ⟨by decide +kernel, rfl⟩
theorem dc_M_errorOf_19 : decode prog_9_method_34_code 19 = .ok (.istore_n 2, 1) ∧ 19 + 1 = 20 := ⟨by decide +kernel, rfl⟩
theorem dc_M_errorOf_20 : decode prog_9_method_34_code 20 = .ok (.iload_n 2, 1) ∧ 20 + 1 = 21 := ⟨by decide +kernel, rfl⟩
theorem dc_M_errorOf_21 : decode prog_9_method_34_code 21 = .ok (.ifCond .ne 11, 3) ∧ ((21 : Nat) : Int) + (11) = ((32 : Nat) : Int) ∧ 21 + 3 = 24 := ⟨by decide +kernel, by decide, rfl⟩
theorem dc_M_errorOf_24 : decode prog_9_method_34_code 24 = .ok (.aload_n 0, 1) ∧ 24 + 1 = 25 := ⟨by decide +kernel, rfl⟩
theorem dc_M_errorOf_25 : decode prog_9_method_34_code 25 = .ok (.bipush 42, 2) ∧ 25 + 2 = 27 := ⟨by decide +kernel, rfl⟩
theorem dc_M_errorOf_27 : decode prog_9_method_34_code 27 = .ok (.iconst 0, 1) ∧ 27 + 1 = 28 := ⟨by decide +kernel, rfl⟩
theorem dc_M_errorOf_28 : decode prog_9_method_34_code 28 = .ok (.invokevirtual 50, 3) ∧ 28 + 3 = 31 := ⟨by decide +kernel, rfl⟩
theorem dc_M_errorOf_31 : decode prog_9_method_34_code 31 = .ok (.ireturn, 1) := by decide +kernel
theorem dc_M_errorOf_32 : decode prog_9_method_34_code 32 = .ok (.aload_n 0, 1) ∧ 32 + 1 = 33 := ⟨by decide +kernel, rfl⟩
theorem dc_M_errorOf_33 : decode prog_9_method_34_code 33 = .ok (.bipush 42, 2) ∧ 33 + 2 = 35 := ⟨by decide +kernel, rfl⟩
theorem dc_M_errorOf_35 : decode prog_9_method_34_code 35 = .ok (.iload_n 2, 1) ∧ 35 + 1 = 36 := ⟨by decide +kernel, rfl⟩
theorem dc_M_errorOf_36 : decode prog_9_method_34_code 36 = .ok (.iconst 1, 1) ∧ 36 + 1 = 37 := ⟨by decide +kernel, rfl⟩
theorem dc_M_errorOf_37 : decode prog_9_method_34_code 37 = .ok (.isub, 1) ∧ 37 + 1 = 38 := ⟨by decide +kernel, rfl⟩
theorem dc_M_errorOf_38 : decode prog_9_method_34_code 38 = .ok (.invokevirtual 50, 3) ∧ 38 + 3 = 41 := ⟨by decide +kernel, rfl⟩
theorem dc_M_errorOf_41 : decode prog_9_method_34_code 41 = .ok (.istore_n 3, 1) ∧ 41 + 1 = 42 := ⟨by decide +kernel, rfl⟩
theorem dc_M_errorOf_42 : decode prog_9_method_34_code 42 = .ok (.iload_n 2, 1) ∧ 42 + 1 = 43 := ⟨by decide +kernel, rfl⟩
theorem dc_M_errorOf_43 : decode prog_9_method_34_code 43 = .ok (.aload_n 0, 1) ∧ 43 + 1 = 44 := ⟨by decide +kernel, rfl⟩
theorem dc_M_errorOf_44 : decode prog_9_method_34_code 44 = .ok (.getfield 7, 3) ∧ 44 + 3 = 47 := ⟨by decide +kernel, rfl⟩
theorem dc_M_errorOf_47 : decode prog_9_method_34_code 47 = .ok (.bipush 42, 2) ∧ 47 + 2 = 49 := ⟨by decide +kernel, rfl⟩
theorem dc_M_errorOf_49 : decode prog_9_method_34_code 49 = .ok (.iaload, 1) ∧ 49 + 1 = 50 := ⟨by decide +kernel, rfl⟩
theorem dc_M_errorOf_50 : decode prog_9_method_34_code 50 = .ok (.if_icmp .ne 5, 3) ∧ ((50 : Nat) : Int) + (5) = ((55 : Nat) : Int) ∧ 50 + 3 = 53 := ⟨by decide +kernel, by decide, rfl⟩
theorem dc_M_errorOf_53 : decode prog_9_method_34_code 53 = .ok (.iload_n 3, 1) ∧ 53 + 1 = 54 := ⟨by decide +kernel, rfl⟩
theorem dc_M_errorOf_54 : decode prog_9_method_34_code 54 = .ok (.ireturn, 1) := by decide +kernel
theorem dc_M_errorOf_55 : decode prog_9_method_34_code 55 = .ok (.aload_n 0, 1) ∧ 55 + 1 = 56 := ⟨by decide +kernel, rfl⟩
theorem dc_M_errorOf_56 : decode prog_9_method_34_code 56 = .ok (.bipush 42, 2) ∧ 56 + 2 = 58 := ⟨by decide +kernel, rfl⟩
theorem dc_M_errorOf_58 : decode prog_9_method_34_code 58 = .ok (.iload_n 2, 1) ∧ 58 + 1 = 59 := ⟨by decide +kernel, rfl⟩
theorem dc_M_errorOf_59 : decode prog_9_method_34_code 59 = .ok (.iconst 1, 1) ∧ 59 + 1 = 60 := ⟨by decide +kernel, rfl⟩
theorem dc_M_errorOf_60 : decode prog_9_method_34_code 60 = .ok (.isub, 1) ∧ 60 + 1 = 61 := ⟨by decide +kernel, rfl⟩
theorem dc_M_errorOf_61 : decode prog_9_method_34_code 61 = .ok (.invokevirtual 35, 3) ∧ 61 + 3 = 64 := ⟨by decide +kernel, rfl⟩
theorem dc_M_errorOf_64 : decode prog_9_method_34_code 64 = .ok (.istore 4, 2) ∧ 64 + 2 = 66 := ⟨by decide +kernel, rfl⟩
theorem dc_M_errorOf_66 : decode prog_9_method_34_code 66 = .ok (.iload_n 3, 1) ∧ 66 + 1 = 67 := ⟨by decide +kernel, rfl⟩
theorem dc_M_errorOf_67 : decode prog_9_method_34_code 67 = .ok (.aload_n 0, 1) ∧ 67 + 1 = 68 := ⟨by decide +kernel, rfl⟩
theorem dc_M_errorOf_68 : decode prog_9_method_34_code 68 = .ok (.bipush 42, 2) ∧ 68 + 2 = 70 := ⟨by decide +kernel, rfl⟩
theorem dc_M_errorOf_70 : decode prog_9_method_34_code 70 = .ok (.iload_n 2, 1) ∧ 70 + 1 = 71 := ⟨by decide +kernel, rfl⟩
theorem dc_M_errorOf_71 : decode prog_9_method_34_code 71 = .ok (.invokevirtual 50, 3) ∧ 71 + 3 = 74 := ⟨by decide +kernel, rfl⟩
theorem dc_M_errorOf_74 : decode prog_9_method_34_code 74 = .ok (.iload_n 3, 1) ∧ 74 + 1 = 75 := ⟨by decide +kernel, rfl⟩
theorem dc_M_errorOf_75 : decode prog_9_method_34_code 75 = .ok (.isub, 1) ∧ 75 + 1 = 76 := ⟨by decide +kernel, rfl⟩
theorem dc_M_errorOf_76 : decode prog_9_method_34_code 76 = .ok (.iload_n 1, 1) ∧ 76 + 1 = 77 := ⟨by decide +kernel, rfl⟩
theorem dc_M_errorOf_77 : decode prog_9_method_34_code 77 = .ok (.iload 4, 2) ∧ 77 + 2 = 79 := ⟨by decide +kernel, rfl⟩
theorem dc_M_errorOf_79 : decode prog_9_method_34_code 79 = .ok (.isub, 1) ∧ 79 + 1 = 80 := ⟨by decide +kernel, rfl⟩
theorem dc_M_errorOf_80 : decode prog_9_method_34_code 80 = .ok (.imul, 1) ∧ 80 + 1 = 81 := ⟨by decide +kernel, rfl⟩
theorem dc_M_errorOf_81 : decode prog_9_method_34_code 81 = .ok (.aload_n 0, 1) ∧ 81 + 1 = 82 := ⟨by decide +kernel, rfl⟩
theorem dc_M_errorOf_82 : decode prog_9_method_34_code 82 = .ok (.bipush 42, 2) ∧ 82 + 2 = 84 := ⟨by decide +kernel, rfl⟩
theorem dc_M_errorOf_84 : decode prog_9_method_34_code 84 = .ok (.iload_n 2, 1) ∧ 84 + 1 = 85 := ⟨by decide +kernel, rfl⟩
theorem dc_M_errorOf_85 : decode prog_9_method_34_code 85 = .ok (.invokevirtual 35, 3) ∧ 85 + 3 = 88 := ⟨by decide +kernel, rfl⟩
theorem dc_M_errorOf_88 : decode prog_9_method_34_code 88 = .ok (.iload 4, 2) ∧ 88 + 2 = 90 := ⟨by decide +kernel, rfl⟩
theorem dc_M_errorOf_90 : decode prog_9_method_34_code 90 = .ok (.isub, 1) ∧ 90 + 1 = 91 := ⟨by decide +kernel, rfl⟩
theorem dc_M_errorOf_91 : decode prog_9_method_34_code 91 = .ok (.invokestatic 110, 3) ∧ 91 + 3 = 94 := ⟨by decide +kernel, rfl⟩
theorem dc_M_errorOf_94 : decode prog_9_method_34_code 94 = .ok (.iadd, 1) ∧ 94 + 1 = 95 := ⟨by decide +kernel, rfl⟩
theorem dc_M_errorOf_95 : decode prog_9_method_34_code 95 = .ok (.ireturn, 1) := by decide +kernel
theorem dc_M_down_0 : decode prog_9_method_5_code 0 = .ok (.iload_n 0, 1) ∧ 0 + 1 = 1 := ⟨by decide +kernel, rfl⟩
theorem dc_M_down_1 : decode prog_9_method_5_code 1 = .ok (.ifCond .lt 9, 3) ∧ ((1 : Nat) : Int) + (9) = ((10 : Nat) : Int) ∧ 1 + 3 = 4 := ⟨by decide +kernel, by decide, rfl⟩
theorem dc_M_down_4 : decode prog_9_method_5_code 4 = .ok (.iload_n 0, 1) ∧ 4 + 1 = 5 := ⟨by decide +kernel, rfl⟩
theorem dc_M_down_5 : decode prog_9_method_5_code 5 = .ok (.iload_n 1, 1) ∧ 5 + 1 = 6 := ⟨by decide +kernel, rfl⟩
theorem dc_M_down_6 : decode prog_9_method_5_code 6 = .ok (.idiv, 1) ∧ 6 + 1 = 7 := ⟨by decide +kernel, rfl⟩
theorem dc_M_down_7 : decode prog_9_method_5_code 7 = .ok (.goto 11, 3) ∧ ((7 : Nat) : Int) + (11) = ((18 : Nat) : Int) := ⟨by decide +kernel, by decide⟩
theorem dc_M_down_10 : decode prog_9_method_5_code 10 = .ok (.iload_n 1, 1) ∧ 10 + 1 = 11 := ⟨by decide +kernel, rfl⟩
theorem dc_M_down_11 : decode prog_9_method_5_code 11 = .ok (.iconst 1, 1) ∧ 11 + 1 = 12 := ⟨by decide +kernel, rfl⟩
theorem dc_M_down_12 : decode prog_9_method_5_code 12 = .ok (.isub, 1) ∧ 12 + 1 = 13 := ⟨by decide +kernel, rfl⟩
theorem dc_M_down_13 : decode prog_9_method_5_code 13 = .ok (.iload_n 0, 1) ∧ 13 + 1 = 14 := ⟨by decide +kernel, rfl⟩
theorem dc_M_down_14 : decode prog_9_method_5_code 14 = .ok (.isub, 1) ∧ 14 + 1 = 15 := ⟨by decide +kernel, rfl⟩
theorem dc_M_down_15 : decode prog_9_method_5_code 15 = .ok (.iload_n 1, 1) ∧ 15 + 1 = 16 := ⟨by decide +kernel, rfl⟩
theorem dc_M_down_16 : decode prog_9_method_5_code 16 = .ok (.idiv, 1) ∧ 16 + 1 = 17 := ⟨by decide +kernel, rfl⟩
theorem dc_M_down_17 : decode prog_9_method_5_code 17 = .ok (.ineg, 1) ∧ 17 + 1 = 18 := ⟨by decide +kernel, rfl⟩
theorem dc_M_down_18 : decode prog_9_method_5_code 18 = .ok (.ireturn, 1) := by decide +kernel
theorem dc_M_moves_0 : decode prog_9_method_39_code 0 = .ok (.aload_n 0, 1) ∧ 0 + 1 = 1 := ⟨by decide +kernel, rfl⟩
theorem dc_M_moves_1 : decode prog_9_method_39_code 1 = .ok (.iload_n 1, 1) ∧ 1 + 1 = 2 := ⟨by decide +kernel, rfl⟩
theorem dc_M_moves_2 : decode prog_9_method_39_code 2 = .ok (.invokevirtual 129, 3) ∧ 2 + 3 = 5 := ⟨by decide +kernel, rfl⟩
theorem dc_M_moves_5 : decode prog_9_method_39_code 5 = .ok (.aload_n 0, 1) ∧ 5 + 1 = 6 := ⟨by decide +kernel, rfl⟩
theorem dc_M_moves_6 : decode prog_9_method_39_code 6 = .ok (.getfield 7, 3) ∧ 6 + 3 = 9 := ⟨by decide +kernel, rfl⟩
theorem dc_M_moves_9 : decode prog_9_method_39_code 9 = .ok (.bipush 6, 2) ∧ 9 + 2 = 11 := ⟨by decide +kernel, rfl⟩
theorem dc_M_moves_11 : decode prog_9_method_39_code 11 = .ok (.iaload, 1) ∧ 11 + 1 = 12 := ⟨by decide +kernel, rfl⟩
theorem dc_M_moves_12 : decode prog_9_method_39_code 12 = .ok (.isub, 1) ∧ 12 + 1 = 13 := ⟨by decide +kernel, rfl⟩
theorem dc_M_moves_13 : decode prog_9_method_39_code 13 = .ok (.aload_n 0, 1) ∧ 13 + 1 = 14 := ⟨by decide +kernel, rfl⟩
theorem dc_M_moves_14 : decode prog_9_method_39_code 14 = .ok (.getfield 7, 3) ∧ 14 + 3 = 17 := ⟨by decide +kernel, rfl⟩
theorem dc_M_moves_17 : decode prog_9_method_39_code 17 = .ok (.iconst 0, 1) ∧ 17 + 1 = 18 := ⟨by decide +kernel, rfl⟩
theorem dc_M_moves_18 : decode prog_9_method_39_code 18 = .ok (.iaload, 1) ∧ 18 + 1 = 19 := ⟨by decide +kernel, rfl⟩
theorem dc_M_moves_19 : decode prog_9_method_39_code 19 = .ok (.idiv, 1) ∧ 19 + 1 = 20 := ⟨by decide +kernel, rfl⟩
theorem dc_M_moves_20 : decode prog_9_method_39_code 20 = .ok (.istore_n 2, 1) ∧ 20 + 1 = 21 := ⟨by decide +kernel, rfl⟩
theorem dc_M_moves_21 : decode prog_9_method_39_code 21 = .ok (.iload_n 2, 1) ∧ 21 + 1 = 22 := ⟨by decide +kernel, rfl⟩
theorem dc_M_moves_22 : decode prog_9_method_39_code 22 = .ok (.ifCond .ge 7, 3) ∧ ((22 : Nat) : Int) + (7) = ((29 : Nat) : Int) ∧ 22 + 3 = 25 := ⟨by decide +kernel, by decide, rfl⟩
theorem dc_M_moves_25 : decode prog_9_method_39_code 25 = .ok (.iconst (-1), 1) ∧ 25 + 1 = 26 := ⟨by decide +kernel, rfl⟩
theorem dc_M_moves_26 : decode prog_9_method_39_code 26 = .ok (.goto 4, 3) ∧ ((26 : Nat) : Int) + (4) = ((30 : Nat) : Int) := ⟨by decide +kernel, by decide⟩
theorem dc_M_moves_29 : decode prog_9_method_39_code 29 = .ok (.iconst 1, 1) ∧ 29 + 1 = 30 := ⟨by decide +kernel, rfl⟩
theorem dc_M_moves_30 : decode prog_9_method_39_code 30 = .ok (.istore_n 3, 1) ∧ 30 + 1 = 31 := ⟨by decide +kernel, rfl⟩
theorem dc_M_moves_31 : decode prog_9_method_39_code 31 = .ok (.iconst 0, 1) ∧ 31 + 1 = 32 := ⟨by decide +kernel, rfl⟩
theorem dc_M_moves_32 : decode prog_9_method_39_code 32 = .ok (.istore 4, 2) ∧ 32 + 2 = 34 := ⟨by decide +kernel, rfl⟩
theorem dc_M_moves_34 : decode prog_9_method_39_code 34 = .ok (.iload 4, 2) ∧ 34 + 2 = 36 := ⟨by decide +kernel, rfl⟩
theorem dc_M_moves_36 : decode prog_9_method_39_code 36 = .ok (.iload_n 2, 1) ∧ 36 + 1 = 37 := ⟨by decide +kernel, rfl⟩
theorem dc_M_moves_37 : decode prog_9_method_39_code 37 = .ok (.invokestatic 120, 3) ∧ 37 + 3 = 40 := ⟨by decide +kernel, rfl⟩
theorem dc_M_moves_40 : decode prog_9_method_39_code 40 = .ok (.if_icmp .ge 14, 3) ∧ ((40 : Nat) : Int) + (14) = ((54 : Nat) : Int) ∧ 40 + 3 = 43 := ⟨by decide +kernel, by decide, rfl⟩
theorem dc_M_moves_43 : decode prog_9_method_39_code 43 = .ok (.aload_n 0, 1) ∧ 43 + 1 = 44 := ⟨by decide +kernel, rfl⟩
theorem dc_M_moves_44 : decode prog_9_method_39_code 44 = .ok (.iload_n 3, 1) ∧ 44 + 1 = 45 := ⟨by decide +kernel, rfl⟩
theorem dc_M_moves_45 : decode prog_9_method_39_code 45 = .ok (.invokevirtual 132, 3) ∧ 45 + 3 = 48 := ⟨by decide +kernel, rfl⟩
theorem dc_M_moves_48 : decode prog_9_method_39_code 48 = .ok (.iinc 4 1, 3) ∧ 48 + 3 = 51 := ⟨by decide +kernel, rfl⟩
theorem dc_M_moves_51 : decode prog_9_method_39_code 51 = .ok (.goto (-17), 3) ∧ ((51 : Nat) : Int) + (-17) = ((34 : Nat) : Int) := ⟨by decide +kernel, by decide⟩
theorem dc_M_moves_54 : decode prog_9_method_39_code 54 = .ok (.return_, 1) := by decide +kernel
theorem dc_M_size_0 : decode prog_9_method_4_code 0 = .ok (.iload_n 0, 1) ∧ 0 + 1 = 1 := ⟨by decide +kernel, rfl⟩
theorem dc_M_size_1 : decode prog_9_method_4_code 1 = .ok (.ifCond .ge 8, 3) ∧ ((1 : Nat) : Int) + (8) = ((9 : Nat) : Int) ∧ 1 + 3 = 4 := ⟨by decide +kernel, by decide, rfl⟩
theorem dc_M_size_4 : decode prog_9_method_4_code 4 = .ok (.iload_n 0, 1) ∧ 4 + 1 = 5 := ⟨by decide +kernel, rfl⟩
theorem dc_M_size_5 : decode prog_9_method_4_code 5 = .ok (.ineg, 1) ∧ 5 + 1 = 6 := ⟨by decide +kernel, rfl⟩
theorem dc_M_size_6 : decode prog_9_method_4_code 6 = .ok (.goto 4, 3) ∧ ((6 : Nat) : Int) + (4) = ((10 : Nat) : Int) := ⟨by decide +kernel, by decide⟩
theorem dc_M_size_9 : decode prog_9_method_4_code 9 = .ok (.iload_n 0, 1) ∧ 9 + 1 = 10 := ⟨by decide +kernel, rfl⟩
theorem dc_M_size_10 : decode prog_9_method_4_code 10 = .ok (.ireturn, 1) := by decide +kernel
theorem dc_M_microstep_0 : decode prog_9_method_37_code 0 = .ok (.aload_n 0, 1) ∧ 0 + 1 = 1 := ⟨by decide +kernel, rfl⟩
theorem dc_M_microstep_1 : decode prog_9_method_37_code 1 = .ok (.getfield 7, 3) ∧ 1 + 3 = 4 := ⟨by decide +kernel, rfl⟩
theorem dc_M_microstep_4 : decode prog_9_method_37_code 4 = .ok (.bipush 12, 2) ∧ 4 + 2 = 6 := ⟨by decide +kernel, rfl⟩
theorem dc_M_microstep_6 : decode prog_9_method_37_code 6 = .ok (.dup2, 1) ∧ 6 + 1 = 7 := ⟨by decide +kernel, rfl⟩
theorem dc_M_microstep_7 : decode prog_9_method_37_code 7 = .ok (.iaload, 1) ∧ 7 + 1 = 8 := ⟨by decide +kernel, rfl⟩
theorem dc_M_microstep_8 : decode prog_9_method_37_code 8 = .ok (.iconst 1, 1) ∧ 8 + 1 = 9 := ⟨by decide +kernel, rfl⟩
theorem dc_M_microstep_9 : decode prog_9_method_37_code 9 = .ok (.iadd, 1) ∧ 9 + 1 = 10 := ⟨by decide +kernel, rfl⟩
theorem dc_M_microstep_10 : decode prog_9_method_37_code 10 = .ok (.iastore, 1) ∧ 10 + 1 = 11 := ⟨by decide +kernel, rfl⟩
theorem dc_M_microstep_11 : decode prog_9_method_37_code 11 = .ok (.aload_n 0, 1) ∧ 11 + 1 = 12 := ⟨by decide +kernel, rfl⟩
theorem dc_M_microstep_12 : decode prog_9_method_37_code 12 = .ok (.getfield 7, 3) ∧ 12 + 3 = 15 := ⟨by decide +kernel, rfl⟩
theorem dc_M_microstep_15 : decode prog_9_method_37_code 15 = .ok (.bipush 6, 2) ∧ 15 + 2 = 17 := ⟨by decide +kernel, rfl⟩
theorem dc_M_microstep_17 : decode prog_9_method_37_code 17 = .ok (.dup2, 1) ∧ 17 + 1 = 18 := ⟨by decide +kernel, rfl⟩
theorem dc_M_microstep_18 : decode prog_9_method_37_code 18 = .ok (.iaload, 1) ∧ 18 + 1 = 19 := ⟨by decide +kernel, rfl⟩
theorem dc_M_microstep_19 : decode prog_9_method_37_code 19 = .ok (.iload_n 1, 1) ∧ 19 + 1 = 20 := ⟨by decide +kernel, rfl⟩
theorem dc_M_microstep_20 : decode prog_9_method_37_code 20 = .ok (.aload_n 0, 1) ∧ 20 + 1 = 21 := ⟨by decide +kernel, rfl⟩
theorem dc_M_microstep_21 : decode prog_9_method_37_code 21 = .ok (.getfield 7, 3) ∧ 21 + 3 = 24 := ⟨by decide +kernel, rfl⟩
theorem dc_M_microstep_24 : decode prog_9_method_37_code 24 = .ok (.iconst 0, 1) ∧ 24 + 1 = 25 := ⟨by decide +kernel, rfl⟩
theorem dc_M_microstep_25 : decode prog_9_method_37_code 25 = .ok (.iaload, 1) ∧ 25 + 1 = 26 := ⟨by decide +kernel, rfl⟩
theorem dc_M_microstep_26 : decode prog_9_method_37_code 26 = .ok (.imul, 1) ∧ 26 + 1 = 27 := ⟨by decide +kernel, rfl⟩
theorem dc_M_microstep_27 : decode prog_9_method_37_code 27 = .ok (.iadd, 1) ∧ 27 + 1 = 28 := ⟨by decide +kernel, rfl⟩
theorem dc_M_microstep_28 : decode prog_9_method_37_code 28 = .ok (.iastore, 1) ∧ 28 + 1 = 29 := ⟨by decide +kernel, rfl⟩
theorem dc_M_microstep_29 : decode prog_9_method_37_code 29 = .ok (.aload_n 0, 1) ∧ 29 + 1 = 30 := ⟨by decide +kernel, rfl⟩
theorem dc_M_microstep_30 : decode prog_9_method_37_code 30 = .ok (.getfield 7, 3) ∧ 30 + 3 = 33 := ⟨by decide +kernel, rfl⟩
theorem dc_M_microstep_33 : decode prog_9_method_37_code 33 = .ok (.bipush 9, 2) ∧ 33 + 2 = 35 := ⟨by decide +kernel, rfl⟩
theorem dc_M_microstep_35 : decode prog_9_method_37_code 35 = .ok (.dup2, 1) ∧ 35 + 1 = 36 := ⟨by decide +kernel, rfl⟩
theorem dc_M_microstep_36 : decode prog_9_method_37_code 36 = .ok (.iaload, 1) ∧ 36 + 1 = 37 := ⟨by decide +kernel, rfl⟩
theorem dc_M_microstep_37 : decode prog_9_method_37_code 37 = .ok (.iload_n 1, 1) ∧ 37 + 1 = 38 := ⟨by decide +kernel, rfl⟩
theorem dc_M_microstep_38 : decode prog_9_method_37_code 38 = .ok (.aload_n 0, 1) ∧ 38 + 1 = 39 := ⟨by decide +kernel, rfl⟩
theorem dc_M_microstep_39 : decode prog_9_method_37_code 39 = .ok (.getfield 7, 3) ∧ 39 + 3 = 42 := ⟨by decide +kernel, rfl⟩
theorem dc_M_microstep_42 : decode prog_9_method_37_code 42 = .ok (.iconst 0, 1) ∧ 42 + 1 = 43 := ⟨by decide +kernel, rfl⟩
theorem dc_M_microstep_43 : decode prog_9_method_37_code 43 = .ok (.iaload, 1) ∧ 43 + 1 = 44 := ⟨by decide +kernel, rfl⟩
theorem dc_M_microstep_44 : decode prog_9_method_37_code 44 = .ok (.imul, 1) ∧ 44 + 1 = 45 := ⟨by decide +kernel, rfl⟩
theorem dc_M_microstep_45 : decode prog_9_method_37_code 45 = .ok (.iadd, 1) ∧ 45 + 1 = 46 := ⟨by decide +kernel, rfl⟩
theorem dc_M_microstep_46 : decode prog_9_method_37_code 46 = .ok (.iastore, 1) ∧ 46 + 1 = 47 := ⟨by decide +kernel, rfl⟩
theorem dc_M_microstep_47 : decode prog_9_method_37_code 47 = .ok (.aload_n 0, 1) ∧ 47 + 1 = 48 := ⟨by decide +kernel, rfl⟩
theorem dc_M_microstep_48 : decode prog_9_method_37_code 48 = .ok (.invokevirtual 113, 3) ∧ 48 + 3 = 51 := ⟨by decide +kernel, rfl⟩
theorem dc_M_microstep_51 : decode prog_9_method_37_code 51 = .ok (.aload_n 0, 1) ∧ 51 + 1 = 52 := ⟨by decide +kernel, rfl⟩
theorem dc_M_microstep_52 : decode prog_9_method_37_code 52 = .ok (.aload_n 0, 1) ∧ 52 + 1 = 53 := ⟨by decide +kernel, rfl⟩
theorem dc_M_microstep_53 : decode prog_9_method_37_code 53 = .ok (.getfield 7, 3) ∧ 53 + 3 = 56 := ⟨by decide +kernel, rfl⟩
theorem dc_M_microstep_56 : decode prog_9_method_37_code 56 = .ok (.bipush 8, 2) ∧ 56 + 2 = 58 := ⟨by decide +kernel, rfl⟩
theorem dc_M_microstep_58 : decode prog_9_method_37_code 58 = .ok (.iaload, 1) ∧ 58 + 1 = 59 := ⟨by decide +kernel, rfl⟩
theorem dc_M_microstep_59 : decode prog_9_method_37_code 59 = .ok (.invokevirtual 116, 3) ∧ 59 + 3 = 62 := ⟨by decide +kernel, rfl⟩
theorem dc_M_microstep_62 : decode prog_9_method_37_code 62 = .ok (.if_icmp .lt 53, 3) ∧ ((62 : Nat) : Int) + (53) = ((115 : Nat) : Int) ∧ 62 + 3 = 65 := ⟨by decide +kernel, by decide, rfl⟩
theorem dc_M_microstep_65 : decode prog_9_method_37_code 65 = .ok (.aload_n 0, 1) ∧ 65 + 1 = 66 := ⟨by decide +kernel, rfl⟩
theorem dc_M_microstep_66 : decode prog_9_method_37_code 66 = .ok (.getfield 7, 3) ∧ 66 + 3 = 69 := ⟨by decide +kernel, rfl⟩
theorem dc_M_microstep_69 : decode prog_9_method_37_code 69 = .ok (.bipush 16, 2) ∧ 69 + 2 = 71 := ⟨by decide +kernel, rfl⟩
theorem dc_M_microstep_71 : decode prog_9_method_37_code 71 = .ok (.dup2, 1) ∧ 71 + 1 = 72 := ⟨by decide +kernel, rfl⟩
theorem dc_M_microstep_72 : decode prog_9_method_37_code 72 = .ok (.iaload, 1) ∧ 72 + 1 = 73 := ⟨by decide +kernel, rfl⟩
theorem dc_M_microstep_73 : decode prog_9_method_37_code 73 = .ok (.aload_n 0, 1) ∧ 73 + 1 = 74 := ⟨by decide +kernel, rfl⟩
theorem dc_M_microstep_74 : decode prog_9_method_37_code 74 = .ok (.getfield 7, 3) ∧ 74 + 3 = 77 := ⟨by decide +kernel, rfl⟩
theorem dc_M_microstep_77 : decode prog_9_method_37_code 77 = .ok (.bipush 9, 2) ∧ 77 + 2 = 79 := ⟨by decide +kernel, rfl⟩
theorem dc_M_microstep_79 : decode prog_9_method_37_code 79 = .ok (.iaload, 1) ∧ 79 + 1 = 80 := ⟨by decide +kernel, rfl⟩
theorem dc_M_microstep_80 : decode prog_9_method_37_code 80 = .ok (.invokestatic 120, 3) ∧ 80 + 3 = 83 := ⟨by decide +kernel, rfl⟩
theorem dc_M_microstep_83 : decode prog_9_method_37_code 83 = .ok (.iadd, 1) ∧ 83 + 1 = 84 := ⟨by decide +kernel, rfl⟩
theorem dc_M_microstep_84 : decode prog_9_method_37_code 84 = .ok (.iastore, 1) ∧ 84 + 1 = 85 := ⟨by decide +kernel, rfl⟩
theorem dc_M_microstep_85 : decode prog_9_method_37_code 85 = .ok (.aload_n 0, 1) ∧ 85 + 1 = 86 := ⟨by decide +kernel, rfl⟩
theorem dc_M_microstep_86 : decode prog_9_method_37_code 86 = .ok (.getfield 7, 3) ∧ 86 + 3 = 89 := ⟨by decide +kernel, rfl⟩
theorem dc_M_microstep_89 : decode prog_9_method_37_code 89 = .ok (.bipush 7, 2) ∧ 89 + 2 = 91 := ⟨by decide +kernel, rfl⟩
theorem dc_M_microstep_91 : decode prog_9_method_37_code 91 = .ok (.dup2, 1) ∧ 91 + 1 = 92 := ⟨by decide +kernel, rfl⟩
theorem dc_M_microstep_92 : decode prog_9_method_37_code 92 = .ok (.iaload, 1) ∧ 92 + 1 = 93 := ⟨by decide +kernel, rfl⟩
theorem dc_M_microstep_93 : decode prog_9_method_37_code 93 = .ok (.aload_n 0, 1) ∧ 93 + 1 = 94 := ⟨by decide +kernel, rfl⟩
theorem dc_M_microstep_94 : decode prog_9_method_37_code 94 = .ok (.getfield 7, 3) ∧ 94 + 3 = 97 := ⟨by decide +kernel, rfl⟩
theorem dc_M_microstep_97 : decode prog_9_method_37_code 97 = .ok (.bipush 9, 2) ∧ 97 + 2 = 99 := ⟨by decide +kernel, rfl⟩
theorem dc_M_microstep_99 : decode prog_9_method_37_code 99 = .ok (.iaload, 1) ∧ 99 + 1 = 100 := ⟨by decide +kernel, rfl⟩
theorem dc_M_microstep_100 : decode prog_9_method_37_code 100 = .ok (.iadd, 1) ∧ 100 + 1 = 101 := ⟨by decide +kernel, rfl⟩
theorem dc_M_microstep_101 : decode prog_9_method_37_code 101 = .ok (.iastore, 1) ∧ 101 + 1 = 102 := ⟨by decide +kernel, rfl⟩
theorem dc_M_microstep_102 : decode prog_9_method_37_code 102 = .ok (.aload_n 0, 1) ∧ 102 + 1 = 103 := ⟨by decide +kernel, rfl⟩
theorem dc_M_microstep_103 : decode prog_9_method_37_code 103 = .ok (.getfield 7, 3) ∧ 103 + 3 = 106 := ⟨by decide +kernel, rfl⟩
theorem dc_M_microstep_106 : decode prog_9_method_37_code 106 = .ok (.bipush 9, 2) ∧ 106 + 2 = 108 := ⟨by decide +kernel, rfl⟩
theorem dc_M_microstep_108 : decode prog_9_method_37_code 108 = .ok (.iconst 0, 1) ∧ 108 + 1 = 109 := ⟨by decide +kernel, rfl⟩
theorem dc_M_microstep_109 : decode prog_9_method_37_code 109 = .ok (.iastore, 1) ∧ 109 + 1 = 110 := ⟨by decide +kernel, rfl⟩
theorem dc_M_microstep_110 : decode prog_9_method_37_code 110 = .ok (.aload_n 0, 1) ∧ 110 + 1 = 111 := ⟨by decide +kernel, rfl⟩
theorem dc_M_microstep_111 : decode prog_9_method_37_code 111 = .ok (.invokevirtual 123, 3) ∧ 111 + 3 = 114 := ⟨by decide +kernel, rfl⟩
theorem dc_M_microstep_114 : decode prog_9_method_37_code 114 = .ok (.return_, 1) := by decide +kernel
theorem dc_M_microstep_115 : decode prog_9_method_37_code 115 = .ok (.aload_n 0, 1) ∧ 115 + 1 = 116 := ⟨by decide +kernel, rfl⟩
theorem dc_M_microstep_116 : decode prog_9_method_37_code 116 = .ok (.getfield 7, 3) ∧ 116 + 3 = 119 := ⟨by decide +kernel, rfl⟩
theorem dc_M_microstep_119 : decode prog_9_method_37_code 119 = .ok (.bipush 13, 2) ∧ 119 + 2 = 121 := ⟨by decide +kernel, rfl⟩
theorem dc_M_microstep_121 : decode prog_9_method_37_code 121 = .ok (.dup2, 1) ∧ 121 + 1 = 122 := ⟨by decide +kernel, rfl⟩
theorem dc_M_microstep_122 : decode prog_9_method_37_code 122 = .ok (.iaload, 1) ∧ 122 + 1 = 123 := ⟨by decide +kernel, rfl⟩
theorem dc_M_microstep_123 : decode prog_9_method_37_code 123 = .ok (.iconst 1, 1) ∧ 123 + 1 = 124 := ⟨by decide +kernel, rfl⟩
theorem dc_M_microstep_124 : decode prog_9_method_37_code 124 = .ok (.iadd, 1) ∧ 124 + 1 = 125 := ⟨by decide +kernel, rfl⟩
theorem dc_M_microstep_125 : decode prog_9_method_37_code 125 = .ok (.iastore, 1) ∧ 125 + 1 = 126 := ⟨by decide +kernel, rfl⟩
theorem dc_M_microstep_126 : decode prog_9_method_37_code 126 = .ok (.aload_n 0, 1) ∧ 126 + 1 = 127 := ⟨by decide +kernel, rfl⟩
theorem dc_M_microstep_127 : decode prog_9_method_37_code 127 = .ok (.getfield 7, 3) ∧ 127 + 3 = 130 := ⟨by decide +kernel, rfl⟩
theorem dc_M_microstep_130 : decode prog_9_method_37_code 130 = .ok (.bipush 9, 2) ∧ 130 + 2 = 132 := ⟨by decide +kernel, rfl⟩
theorem dc_M_microstep_132 : decode prog_9_method_37_code 132 = .ok (.iaload, 1) ∧ 132 + 1 = 133 := ⟨by decide +kernel, rfl⟩
theorem dc_M_microstep_133 : decode prog_9_method_37_code 133 = .ok (.bipush 32, 2) ∧ 133 + 2 = 135 := ⟨by decide +kernel, rfl⟩
theorem dc_M_microstep_135 : decode prog_9_method_37_code 135 = .ok (.if_icmp .lt 41, 3) ∧ ((135 : Nat) : Int) + (41) = ((176 : Nat) : Int) ∧ 135 + 3 = 138 := ⟨by decide +kernel, by decide, rfl⟩
theorem dc_M_microstep_138 : decode prog_9_method_37_code 138 = .ok (.aload_n 0, 1) ∧ 138 + 1 = 139 := ⟨by decide +kernel, rfl⟩
theorem dc_M_microstep_139 : decode prog_9_method_37_code 139 = .ok (.getfield 7, 3) ∧ 139 + 3 = 142 := ⟨by decide +kernel, rfl⟩
theorem dc_M_microstep_142 : decode prog_9_method_37_code 142 = .ok (.bipush 14, 2) ∧ 142 + 2 = 144 := ⟨by decide +kernel, rfl⟩
theorem dc_M_microstep_144 : decode prog_9_method_37_code 144 = .ok (.dup2, 1) ∧ 144 + 1 = 145 := ⟨by decide +kernel, rfl⟩
theorem dc_M_microstep_145 : decode prog_9_method_37_code 145 = .ok (.iaload, 1) ∧ 145 + 1 = 146 := ⟨by decide +kernel, rfl⟩
theorem dc_M_microstep_146 : decode prog_9_method_37_code 146 = .ok (.iconst 1, 1) ∧ 146 + 1 = 147 := ⟨by decide +kernel, rfl⟩
theorem dc_M_microstep_147 : decode prog_9_method_37_code 147 = .ok (.iadd, 1) ∧ 147 + 1 = 148 := ⟨by decide +kernel, rfl⟩
theorem dc_M_microstep_148 : decode prog_9_method_37_code 148 = .ok (.iastore, 1) ∧ 148 + 1 = 149 := ⟨by decide +kernel, rfl⟩
theorem dc_M_microstep_149 : decode prog_9_method_37_code 149 = .ok (.aload_n 0, 1) ∧ 149 + 1 = 150 := ⟨by decide +kernel, rfl⟩
theorem dc_M_microstep_150 : decode prog_9_method_37_code 150 = .ok (.getfield 7, 3) ∧ 150 + 3 = 153 := ⟨by decide +kernel, rfl⟩
theorem dc_M_microstep_153 : decode prog_9_method_37_code 153 = .ok (.bipush 10, 2) ∧ 153 + 2 = 155 := ⟨by decide +kernel, rfl⟩
theorem dc_M_microstep_155 : decode prog_9_method_37_code 155 = .ok (.dup2, 1) ∧ 155 + 1 = 156 := ⟨by decide +kernel, rfl⟩
theorem dc_M_microstep_156 : decode prog_9_method_37_code 156 = .ok (.iaload, 1) ∧ 156 + 1 = 157 := ⟨by decide +kernel, rfl⟩
theorem dc_M_microstep_157 : decode prog_9_method_37_code 157 = .ok (.bipush 64, 2) ∧ 157 + 2 = 159 := ⟨by decide +kernel, rfl⟩
theorem dc_M_microstep_159 : decode prog_9_method_37_code 159 = .ok (.iadd, 1) ∧ 159 + 1 = 160 := ⟨by decide +kernel, rfl⟩
theorem dc_M_microstep_160 : decode prog_9_method_37_code 160 = .ok (.iastore, 1) ∧ 160 + 1 = 161 := ⟨by decide +kernel, rfl⟩
theorem dc_M_microstep_161 : decode prog_9_method_37_code 161 = .ok (.aload_n 0, 1) ∧ 161 + 1 = 162 := ⟨by decide +kernel, rfl⟩
theorem dc_M_microstep_162 : decode prog_9_method_37_code 162 = .ok (.getfield 7, 3) ∧ 162 + 3 = 165 := ⟨by decide +kernel, rfl⟩
theorem dc_M_microstep_165 : decode prog_9_method_37_code 165 = .ok (.bipush 9, 2) ∧ 165 + 2 = 167 := ⟨by decide +kernel, rfl⟩
theorem dc_M_microstep_167 : decode prog_9_method_37_code 167 = .ok (.dup2, 1) ∧ 167 + 1 = 168 := ⟨by decide +kernel, rfl⟩
theorem dc_M_microstep_168 : decode prog_9_method_37_code 168 = .ok (.iaload, 1) ∧ 168 + 1 = 169 := ⟨by decide +kernel, rfl⟩
theorem dc_M_microstep_169 : decode prog_9_method_37_code 169 = .ok (.bipush 64, 2) ∧ 169 + 2 = 171 := ⟨by decide +kernel, rfl⟩
theorem dc_M_microstep_171 : decode prog_9_method_37_code 171 = .ok (.isub, 1) ∧ 171 + 1 = 172 := ⟨by decide +kernel, rfl⟩
theorem dc_M_microstep_172 : decode prog_9_method_37_code 172 = .ok (.iastore, 1) ∧ 172 + 1 = 173 := ⟨by decide +kernel, rfl⟩
theorem dc_M_microstep_173 : decode prog_9_method_37_code 173 = .ok (.goto 50, 3) ∧ ((173 : Nat) : Int) + (50) = ((223 : Nat) : Int) := ⟨by decide +kernel, by decide⟩
theorem dc_M_microstep_176 : decode prog_9_method_37_code 176 = .ok (.aload_n 0, 1) ∧ 176 + 1 = 177 := ⟨by decide +kernel, rfl⟩
theorem dc_M_microstep_177 : decode prog_9_method_37_code 177 = .ok (.getfield 7, 3) ∧ 177 + 3 = 180 := ⟨by decide +kernel, rfl⟩
theorem dc_M_microstep_180 : decode prog_9_method_37_code 180 = .ok (.bipush 9, 2) ∧ 180 + 2 = 182 := ⟨by decide +kernel, rfl⟩
theorem dc_M_microstep_182 : decode prog_9_method_37_code 182 = .ok (.iaload, 1) ∧ 182 + 1 = 183 := ⟨by decide +kernel, rfl⟩
theorem dc_M_microstep_183 : decode prog_9_method_37_code 183 = .ok (.bipush (-32), 2) ∧ 183 + 2 = 185 := ⟨by decide +kernel, rfl⟩
theorem dc_M_microstep_185 : decode prog_9_method_37_code 185 = .ok (.if_icmp .gt 38, 3) ∧ ((185 : Nat) : Int) + (38) = ((223 : Nat) : Int) ∧ 185 + 3 = 188 := ⟨by decide +kernel, by decide, rfl⟩
theorem dc_M_microstep_188 : decode prog_9_method_37_code 188 = .ok (.aload_n 0, 1) ∧ 188 + 1 = 189 := ⟨by decide +kernel, rfl⟩
theorem dc_M_microstep_189 : decode prog_9_method_37_code 189 = .ok (.getfield 7, 3) ∧ 189 + 3 = 192 := ⟨by decide +kernel, rfl⟩
theorem dc_M_microstep_192 : decode prog_9_method_37_code 192 = .ok (.bipush 15, 2) ∧ 192 + 2 = 194 := ⟨by decide +kernel, rfl⟩
theorem dc_M_microstep_194 : decode prog_9_method_37_code 194 = .ok (.dup2, 1) ∧ 194 + 1 = 195 := ⟨by decide +kernel, rfl⟩
theorem dc_M_microstep_195 : decode prog_9_method_37_code 195 = .ok (.iaload, 1) ∧ 195 + 1 = 196 := ⟨by decide +kernel, rfl⟩
theorem dc_M_microstep_196 : decode prog_9_method_37_code 196 = .ok (.iconst 1, 1) ∧ 196 + 1 = 197 := ⟨by decide +kernel, rfl⟩
theorem dc_M_microstep_197 : decode prog_9_method_37_code 197 = .ok (.iadd, 1) ∧ 197 + 1 = 198 := ⟨by decide +kernel, rfl⟩
theorem dc_M_microstep_198 : decode prog_9_method_37_code 198 = .ok (.iastore, 1) ∧ 198 + 1 = 199 := ⟨by decide +kernel, rfl⟩
theorem dc_M_microstep_199 : decode prog_9_method_37_code 199 = .ok (.aload_n 0, 1) ∧ 199 + 1 = 200 := ⟨by decide +kernel, rfl⟩
theorem dc_M_microstep_200 : decode prog_9_method_37_code 200 = .ok (.getfield 7, 3) ∧ 200 + 3 = 203 := ⟨by decide +kernel, rfl⟩
theorem dc_M_microstep_203 : decode prog_9_method_37_code 203 = .ok (.bipush 10, 2) ∧ 203 + 2 = 205 := ⟨by decide +kernel, rfl⟩
theorem dc_M_microstep_205 : decode prog_9_method_37_code 205 = .ok (.dup2, 1) ∧ 205 + 1 = 206 := ⟨by decide +kernel, rfl⟩
theorem dc_M_microstep_206 : decode prog_9_method_37_code 206 = .ok (.iaload, 1) ∧ 206 + 1 = 207 := ⟨by decide +kernel, rfl⟩
theorem dc_M_microstep_207 : decode prog_9_method_37_code 207 = .ok (.bipush 64, 2) ∧ 207 + 2 = 209 := ⟨by decide +kernel, rfl⟩
theorem dc_M_microstep_209 : decode prog_9_method_37_code 209 = .ok (.isub, 1) ∧ 209 + 1 = 210 := ⟨by decide +kernel, rfl⟩
theorem dc_M_microstep_210 : decode prog_9_method_37_code 210 = .ok (.iastore, 1) ∧ 210 + 1 = 211 := ⟨by decide +kernel, rfl⟩
theorem dc_M_microstep_211 : decode prog_9_method_37_code 211 = .ok (.aload_n 0, 1) ∧ 211 + 1 = 212 := ⟨by decide +kernel, rfl⟩
theorem dc_M_microstep_212 : decode prog_9_method_37_code 212 = .ok (.getfield 7, 3) ∧ 212 + 3 = 215 := ⟨by decide +kernel, rfl⟩
theorem dc_M_microstep_215 : decode prog_9_method_37_code 215 = .ok (.bipush 9, 2) ∧ 215 + 2 = 217 := ⟨by decide +kernel, rfl⟩
theorem dc_M_microstep_217 : decode prog_9_method_37_code 217 = .ok (.dup2, 1) ∧ 217 + 1 = 218 := ⟨by decide +kernel, rfl⟩
theorem dc_M_microstep_218 : decode prog_9_method_37_code 218 = .ok (.iaload, 1) ∧ 218 + 1 = 219 := ⟨by decide +kernel, rfl⟩
theorem dc_M_microstep_219 : decode prog_9_method_37_code 219 = .ok (.bipush 64, 2) ∧ 219 + 2 = 221 := ⟨by decide +kernel, rfl⟩
theorem dc_M_microstep_221 : decode prog_9_method_37_code 221 = .ok (.iadd, 1) ∧ 221 + 1 = 222 := ⟨by decide +kernel, rfl⟩
theorem dc_M_microstep_222 : decode prog_9_method_37_code 222 = .ok (.iastore, 1) ∧ 222 + 1 = 223 := ⟨by decide +kernel, rfl⟩
theorem dc_M_microstep_223 : decode prog_9_method_37_code 223 = .ok (.return_, 1) := by decide +kernel
theorem dc_M_torque_0 : decode prog_9_method_35_code 0 = .ok (.aload_n 0, 1) ∧ 0 + 1 = 1 := ⟨by decide +kernel, rfl⟩
theorem dc_M_torque_1 : decode prog_9_method_35_code 1 = .ok (.getfield 7, 3) ∧ 1 + 3 = 4 := ⟨by decide +kernel, rfl⟩
theorem dc_M_torque_4 : decode prog_9_method_35_code 4 = .ok (.iconst 1, 1) ∧ 4 + 1 = 5 := ⟨by decide +kernel, rfl⟩
theorem dc_M_torque_5 : decode prog_9_method_35_code 5 = .ok (.iaload, 1) ∧ 5 + 1 = 6 := ⟨by decide +kernel, rfl⟩
theorem dc_M_torque_6 : decode prog_9_method_35_code 6 = .ok (.aload_n 0, 1) ∧ 6 + 1 = 7 := ⟨by decide +kernel, rfl⟩
theorem dc_M_torque_7 : decode prog_9_method_35_code 7 = .ok (.getfield 7, 3) ∧ 7 + 3 = 10 := ⟨by decide +kernel, rfl⟩
theorem dc_M_torque_10 : decode prog_9_method_35_code 10 = .ok (.iconst 2, 1) ∧ 10 + 1 = 11 := ⟨by decide +kernel, rfl⟩
theorem dc_M_torque_11 : decode prog_9_method_35_code 11 = .ok (.iaload, 1) ∧ 11 + 1 = 12 := ⟨by decide +kernel, rfl⟩
theorem dc_M_torque_12 : decode prog_9_method_35_code 12 = .ok (.aload_n 0, 1) ∧ 12 + 1 = 13 := ⟨by decide +kernel, rfl⟩
theorem dc_M_torque_13 : decode prog_9_method_35_code 13 = .ok (.getfield 7, 3) ∧ 13 + 3 = 16 := ⟨by decide +kernel, rfl⟩
theorem dc_M_torque_16 : decode prog_9_method_35_code 16 = .ok (.iconst 3, 1) ∧ 16 + 1 = 17 := ⟨by decide +kernel, rfl⟩
theorem dc_M_torque_17 : decode prog_9_method_35_code 17 = .ok (.iaload, 1) ∧ 17 + 1 = 18 := ⟨by decide +kernel, rfl⟩
theorem dc_M_torque_18 : decode prog_9_method_35_code 18 = .ok (.imul, 1) ∧ 18 + 1 = 19 := ⟨by decide +kernel, rfl⟩
theorem dc_M_torque_19 : decode prog_9_method_35_code 19 = .ok (.bipush 100, 2) ∧ 19 + 2 = 21 := ⟨by decide +kernel, rfl⟩
theorem dc_M_torque_21 : decode prog_9_method_35_code 21 = .ok (.idiv, 1) ∧ 21 + 1 = 22 := ⟨by decide +kernel, rfl⟩
theorem dc_M_torque_22 : decode prog_9_method_35_code 22 = .ok (.isub, 1) ∧ 22 + 1 = 23 := ⟨by decide +kernel, rfl⟩
theorem dc_M_torque_23 : decode prog_9_method_35_code 23 = .ok (.istore_n 1, 1) ∧ 23 + 1 = 24 := ⟨by decide +kernel, rfl⟩
theorem dc_M_torque_24 : decode prog_9_method_35_code 24 = .ok (.iload_n 1, 1) ∧ 24 + 1 = 25 := ⟨by decide +kernel, rfl⟩
theorem dc_M_torque_25 : decode prog_9_method_35_code 25 = .ok (.ifCond .ge 7, 3) ∧ ((25 : Nat) : Int) + (7) = ((32 : Nat) : Int) ∧ 25 + 3 = 28 := ⟨by decide +kernel, by decide, rfl⟩
theorem dc_M_torque_28 : decode prog_9_method_35_code 28 = .ok (.iconst 0, 1) ∧ 28 + 1 = 29 := ⟨by decide +kernel, rfl⟩
theorem dc_M_torque_29 : decode prog_9_method_35_code 29 = .ok (.goto 4, 3) ∧ ((29 : Nat) : Int) + (4) = ((33 : Nat) : Int) := ⟨by decide +kernel, by decide⟩
theorem dc_M_torque_32 : decode prog_9_method_35_code 32 = .ok (.iload_n 1, 1) ∧ 32 + 1 = 33 := ⟨by decide +kernel, rfl⟩
theorem dc_M_torque_33 : decode prog_9_method_35_code 33 = .ok (.ireturn, 1) := by decide +kernel
theorem dc_M_loadOf_0 : decode prog_9_method_33_code 0 = .ok (.aload_n 0, 1) ∧ 0 + 1 = 1 := ⟨by decide +kernel, rfl⟩
theorem dc_M_loadOf_1 : decode prog_9_method_33_code 1 = .ok (.bipush 21, 2) ∧ 1 + 2 = 3 := ⟨by decide +kernel, rfl⟩
theorem dc_M_loadOf_3 : decode prog_9_method_33_code 3 = .ok (.iload_n 1, 1) ∧ 3 + 1 = 4 := ⟨by decide +kernel, rfl⟩
theorem dc_M_loadOf_4 : decode prog_9_method_33_code 4 = .ok (.invokevirtual 39, 3) ∧ 4 + 3 = 7 := ⟨by decide +kernel, rfl⟩
theorem dc_M_loadOf_7 : decode prog_9_method_33_code 7 = .ok (.istore_n 2, 1) ∧ 7 + 1 = 8 := ⟨by decide +kernel, rfl⟩
theorem dc_M_loadOf_8 : decode prog_9_method_33_code 8 = .ok (.iload_n 2, 1) ∧ 8 + 1 = 9 := ⟨by decide +kernel, rfl⟩
theorem dc_M_loadOf_9 : decode prog_9_method_33_code 9 = .ok (.ifCond .ne 7, 3) ∧ ((9 : Nat) : Int) + (7) = ((16 : Nat) : Int) ∧ 9 + 3 = 12 := ⟨by decide +kernel, by decide, rfl⟩
theorem dc_M_loadOf_12 : decode prog_9_method_33_code 12 = .ok (.iconst 0, 1) ∧ 12 + 1 = 13 := ⟨by decide +kernel, rfl⟩
theorem dc_M_loadOf_13 : decode prog_9_method_33_code 13 = .ok (.goto 12, 3) ∧ ((13 : Nat) : Int) + (12) = ((25 : Nat) : Int) := ⟨by decide +kernel, by decide⟩
theorem dc_M_loadOf_16 : decode prog_9_method_33_code 16 = .ok (.aload_n 0, 1) ∧ 16 + 1 = 17 := ⟨by decide +kernel, rfl⟩
theorem dc_M_loadOf_17 : decode prog_9_method_33_code 17 = .ok (.bipush 21, 2) ∧ 17 + 2 = 19 := ⟨by decide +kernel, rfl⟩
theorem dc_M_loadOf_19 : decode prog_9_method_33_code 19 = .ok (.iload_n 2, 1) ∧ 19 + 1 = 20 := ⟨by decide +kernel, rfl⟩
theorem dc_M_loadOf_20 : decode prog_9_method_33_code 20 = .ok (.iconst 1, 1) ∧ 20 + 1 = 21 := ⟨by decide +kernel, rfl⟩
theorem dc_M_loadOf_21 : decode prog_9_method_33_code 21 = .ok (.isub, 1) ∧ 21 + 1 = 22 := ⟨by decide +kernel, rfl⟩
theorem dc_M_loadOf_22 : decode prog_9_method_33_code 22 = .ok (.invokevirtual 50, 3) ∧ 22 + 3 = 25 := ⟨by decide +kernel, rfl⟩
theorem dc_M_loadOf_25 : decode prog_9_method_33_code 25 = .ok (.ireturn, 1) := by decide +kernel
theorem dc_M_follows_0 : decode prog_9_method_36_code 0 = .ok (.aload_n 0, 1) ∧ 0 + 1 = 1 := ⟨by decide +kernel, rfl⟩
theorem dc_M_follows_1 : decode prog_9_method_36_code 1 = .ok (.getfield 7, 3) ∧ 1 + 3 = 4 := ⟨by decide +kernel, rfl⟩
theorem dc_M_follows_4 : decode prog_9_method_36_code 4 = .ok (.bipush 7, 2) ∧ 4 + 2 = 6 := ⟨by decide +kernel, rfl⟩
theorem dc_M_follows_6 : decode prog_9_method_36_code 6 = .ok (.iaload, 1) ∧ 6 + 1 = 7 := ⟨by decide +kernel, rfl⟩
theorem dc_M_follows_7 : decode prog_9_method_36_code 7 = .ok (.aload_n 0, 1) ∧ 7 + 1 = 8 := ⟨by decide +kernel, rfl⟩
theorem dc_M_follows_8 : decode prog_9_method_36_code 8 = .ok (.getfield 7, 3) ∧ 8 + 3 = 11 := ⟨by decide +kernel, rfl⟩
theorem dc_M_follows_11 : decode prog_9_method_36_code 11 = .ok (.iconst 4, 1) ∧ 11 + 1 = 12 := ⟨by decide +kernel, rfl⟩
theorem dc_M_follows_12 : decode prog_9_method_36_code 12 = .ok (.iaload, 1) ∧ 12 + 1 = 13 := ⟨by decide +kernel, rfl⟩
theorem dc_M_follows_13 : decode prog_9_method_36_code 13 = .ok (.isub, 1) ∧ 13 + 1 = 14 := ⟨by decide +kernel, rfl⟩
theorem dc_M_follows_14 : decode prog_9_method_36_code 14 = .ok (.istore_n 1, 1) ∧ 14 + 1 = 15 := ⟨by decide +kernel, rfl⟩
theorem dc_M_follows_15 : decode prog_9_method_36_code 15 = .ok (.aload_n 0, 1) ∧ 15 + 1 = 16 := ⟨by decide +kernel, rfl⟩
theorem dc_M_follows_16 : decode prog_9_method_36_code 16 = .ok (.getfield 7, 3) ∧ 16 + 3 = 19 := ⟨by decide +kernel, rfl⟩
theorem dc_M_follows_19 : decode prog_9_method_36_code 19 = .ok (.bipush 8, 2) ∧ 19 + 2 = 21 := ⟨by decide +kernel, rfl⟩
theorem dc_M_follows_21 : decode prog_9_method_36_code 21 = .ok (.aload_n 0, 1) ∧ 21 + 1 = 22 := ⟨by decide +kernel, rfl⟩
theorem dc_M_follows_22 : decode prog_9_method_36_code 22 = .ok (.getfield 7, 3) ∧ 22 + 3 = 25 := ⟨by decide +kernel, rfl⟩
theorem dc_M_follows_25 : decode prog_9_method_36_code 25 = .ok (.bipush 8, 2) ∧ 25 + 2 = 27 := ⟨by decide +kernel, rfl⟩
theorem dc_M_follows_27 : decode prog_9_method_36_code 27 = .ok (.iaload, 1) ∧ 27 + 1 = 28 := ⟨by decide +kernel, rfl⟩
theorem dc_M_follows_28 : decode prog_9_method_36_code 28 = .ok (.iload_n 1, 1) ∧ 28 + 1 = 29 := ⟨by decide +kernel, rfl⟩
theorem dc_M_follows_29 : decode prog_9_method_36_code 29 = .ok (.if_icmp .ge 7, 3) ∧ ((29 : Nat) : Int) + (7) = ((36 : Nat) : Int) ∧ 29 + 3 = 32 := ⟨by decide +kernel, by decide, rfl⟩
theorem dc_M_follows_32 : decode prog_9_method_36_code 32 = .ok (.iload_n 1, 1) ∧ 32 + 1 = 33 := ⟨by decide +kernel, rfl⟩
theorem dc_M_follows_33 : decode prog_9_method_36_code 33 = .ok (.goto 37, 3) ∧ ((33 : Nat) : Int) + (37) = ((70 : Nat) : Int) := ⟨by decide +kernel, by decide⟩
theorem dc_M_follows_36 : decode prog_9_method_36_code 36 = .ok (.aload_n 0, 1) ∧ 36 + 1 = 37 := ⟨by decide +kernel, rfl⟩
theorem dc_M_follows_37 : decode prog_9_method_36_code 37 = .ok (.getfield 7, 3) ∧ 37 + 3 = 40 := ⟨by decide +kernel, rfl⟩
theorem dc_M_follows_40 : decode prog_9_method_36_code 40 = .ok (.bipush 8, 2) ∧ 40 + 2 = 42 := ⟨by decide +kernel, rfl⟩
theorem dc_M_follows_42 : decode prog_9_method_36_code 42 = .ok (.iaload, 1) ∧ 42 + 1 = 43 := ⟨by decide +kernel, rfl⟩
theorem dc_M_follows_43 : decode prog_9_method_36_code 43 = .ok (.aload_n 0, 1) ∧ 43 + 1 = 44 := ⟨by decide +kernel, rfl⟩
theorem dc_M_follows_44 : decode prog_9_method_36_code 44 = .ok (.getfield 7, 3) ∧ 44 + 3 = 47 := ⟨by decide +kernel, rfl⟩
theorem dc_M_follows_47 : decode prog_9_method_36_code 47 = .ok (.bipush 7, 2) ∧ 47 + 2 = 49 := ⟨by decide +kernel, rfl⟩
theorem dc_M_follows_49 : decode prog_9_method_36_code 49 = .ok (.iaload, 1) ∧ 49 + 1 = 50 := ⟨by decide +kernel, rfl⟩
theorem dc_M_follows_50 : decode prog_9_method_36_code 50 = .ok (.if_icmp .le 13, 3) ∧ ((50 : Nat) : Int) + (13) = ((63 : Nat) : Int) ∧ 50 + 3 = 53 := ⟨by decide +kernel, by decide, rfl⟩
theorem dc_M_follows_53 : decode prog_9_method_36_code 53 = .ok (.aload_n 0, 1) ∧ 53 + 1 = 54 := ⟨by decide +kernel, rfl⟩
theorem dc_M_follows_54 : decode prog_9_method_36_code 54 = .ok (.getfield 7, 3) ∧ 54 + 3 = 57 := ⟨by decide +kernel, rfl⟩
theorem dc_M_follows_57 : decode prog_9_method_36_code 57 = .ok (.bipush 7, 2) ∧ 57 + 2 = 59 := ⟨by decide +kernel, rfl⟩
theorem dc_M_follows_59 : decode prog_9_method_36_code 59 = .ok (.iaload, 1) ∧ 59 + 1 = 60 := ⟨by decide +kernel, rfl⟩
theorem dc_M_follows_60 : decode prog_9_method_36_code 60 = .ok (.goto 10, 3) ∧ ((60 : Nat) : Int) + (10) = ((70 : Nat) : Int) := ⟨by decide +kernel, by decide⟩
theorem dc_M_follows_63 : decode prog_9_method_36_code 63 = .ok (.aload_n 0, 1) ∧ 63 + 1 = 64 := ⟨by decide +kernel, rfl⟩
theorem dc_M_follows_64 : decode prog_9_method_36_code 64 = .ok (.getfield 7, 3) ∧ 64 + 3 = 67 := ⟨by decide +kernel, rfl⟩
theorem dc_M_follows_67 : decode prog_9_method_36_code 67 = .ok (.bipush 8, 2) ∧ 67 + 2 = 69 := ⟨by decide +kernel, rfl⟩
theorem dc_M_follows_69 : decode prog_9_method_36_code 69 = .ok (.iaload, 1) ∧ 69 + 1 = 70 := ⟨by decide +kernel, rfl⟩
theorem dc_M_follows_70 : decode prog_9_method_36_code 70 = .ok (.iastore, 1) ∧ 70 + 1 = 71 := ⟨by decide +kernel, rfl⟩
theorem dc_M_follows_71 : decode prog_9_method_36_code 71 = .ok (.return_, 1) := by decide +kernel
theorem dc_M_addCommand_0 : decode prog_9_method_42_code 0 = .ok (.iload_n 1, 1) ∧ 0 + 1 = 1 := ⟨by decide +kernel, rfl⟩
theorem dc_M_addCommand_1 : decode prog_9_method_42_code 1 = .ok (.invokestatic 65, 3) ∧ 1 + 3 = 4 := ⟨by decide +kernel, rfl⟩
theorem dc_M_addCommand_4 : decode prog_9_method_42_code 4 = .ok (.ifCond .eq 13, 3) ∧ ((4 : Nat) : Int) + (13) = ((17 : Nat) : Int) ∧ 4 + 3 = 7 := ⟨by decide +kernel, by decide, rfl⟩
theorem dc_M_addCommand_7 : decode prog_9_method_42_code 7 = .ok (.iload_n 2, 1) ∧ 7 + 1 = 8 := ⟨by decide +kernel, rfl⟩
theorem dc_M_addCommand_8 : decode prog_9_method_42_code 8 = .ok (.iconst 0, 1) ∧ 8 + 1 = 9 := ⟨by decide +kernel, rfl⟩
theorem dc_M_addCommand_9 : decode prog_9_method_42_code 9 = .ok (.bipush 9, 2) ∧ 9 + 2 = 11 := ⟨by decide +kernel, rfl⟩
theorem dc_M_addCommand_11 : decode prog_9_method_42_code 11 = .ok (.invokestatic 31, 3) ∧ 11 + 3 = 14 := ⟨by decide +kernel, rfl⟩
theorem dc_M_addCommand_14 : decode prog_9_method_42_code 14 = .ok (.ifCond .ne 6, 3) ∧ ((14 : Nat) : Int) + (6) = ((20 : Nat) : Int) ∧ 14 + 3 = 17 := ⟨by decide +kernel, by decide, rfl⟩
theorem dc_M_addCommand_17 : decode prog_9_method_42_code 17 = .ok (.ldc 64, 2) ∧ 17 + 2 = 19 := ⟨by decide +kernel, rfl⟩
theorem dc_M_addCommand_19 : decode prog_9_method_42_code 19 = .ok (.ireturn, 1) := by decide +kernel
theorem dc_M_addCommand_20 : decode prog_9_method_42_code 20 = .ok (.aload_n 0, 1) ∧ 20 + 1 = 21 := ⟨by decide +kernel, rfl⟩
theorem dc_M_addCommand_21 : decode prog_9_method_42_code 21 = .ok (.getfield 7, 3) ∧ 21 + 3 = 24 := ⟨by decide +kernel, rfl⟩
theorem dc_M_addCommand_24 : decode prog_9_method_42_code 24 = .ok (.bipush 63, 2) ∧ 24 + 2 = 26 := ⟨by decide +kernel, rfl⟩
theorem dc_M_addCommand_26 : decode prog_9_method_42_code 26 = .ok (.iaload, 1) ∧ 26 + 1 = 27 := ⟨by decide +kernel, rfl⟩
theorem dc_M_addCommand_27 : decode prog_9_method_42_code 27 = .ok (.bipush 8, 2) ∧ 27 + 2 = 29 := ⟨by decide +kernel, rfl⟩
theorem dc_M_addCommand_29 : decode prog_9_method_42_code 29 = .ok (.if_icmp .ne 6, 3) ∧ ((29 : Nat) : Int) + (6) = ((35 : Nat) : Int) ∧ 29 + 3 = 32 := ⟨by decide +kernel, by decide, rfl⟩
theorem dc_M_addCommand_32 : decode prog_9_method_42_code 32 = .ok (.ldc 46, 2) ∧ 32 + 2 = 34 := ⟨by decide +kernel, rfl⟩
theorem dc_M_addCommand_34 : decode prog_9_method_42_code 34 = .ok (.ireturn, 1) := by decide +kernel
theorem dc_M_addCommand_35 : decode prog_9_method_42_code 35 = .ok (.aload_n 0, 1) ∧ 35 + 1 = 36 := ⟨by decide +kernel, rfl⟩
theorem dc_M_addCommand_36 : decode prog_9_method_42_code 36 = .ok (.invokevirtual 47, 3) ∧ 36 + 3 = 39 := ⟨by decide +kernel, rfl⟩
theorem dc_M_addCommand_39 : decode prog_9_method_42_code 39 = .ok (.aload_n 0, 1) ∧ 39 + 1 = 40 := ⟨by decide +kernel, rfl⟩
theorem dc_M_addCommand_40 : decode prog_9_method_42_code 40 = .ok (.getfield 7, 3) ∧ 40 + 3 = 43 := ⟨by decide +kernel, rfl⟩
theorem dc_M_addCommand_43 : decode prog_9_method_42_code 43 = .ok (.bipush 63, 2) ∧ 43 + 2 = 45 := ⟨by decide +kernel, rfl⟩
theorem dc_M_addCommand_45 : decode prog_9_method_42_code 45 = .ok (.iaload, 1) ∧ 45 + 1 = 46 := ⟨by decide +kernel, rfl⟩
theorem dc_M_addCommand_46 : decode prog_9_method_42_code 46 = .ok (.istore_n 3, 1) ∧ 46 + 1 = 47 := ⟨by decide +kernel, rfl⟩
theorem dc_M_addCommand_47 : decode prog_9_method_42_code 47 = .ok (.iload_n 3, 1) ∧ 47 + 1 = 48 := ⟨by decide +kernel, rfl⟩
theorem dc_M_addCommand_48 : decode prog_9_method_42_code 48 = .ok (.ifCond .le 59, 3) ∧ ((48 : Nat) : Int) + (59) = ((107 : Nat) : Int) ∧ 48 + 3 = 51 := ⟨by decide +kernel, by decide, rfl⟩
theorem dc_M_addCommand_51 : decode prog_9_method_42_code 51 = .ok (.aload_n 0, 1) ∧ 51 + 1 = 52 := ⟨by decide +kernel, rfl⟩
theorem dc_M_addCommand_52 : decode prog_9_method_42_code 52 = .ok (.iload_n 3, 1) ∧ 52 + 1 = 53 := ⟨by decide +kernel, rfl⟩
theorem dc_M_addCommand_53 : decode prog_9_method_42_code 53 = .ok (.iconst 1, 1) ∧ 53 + 1 = 54 := ⟨by decide +kernel, rfl⟩
theorem dc_M_addCommand_54 : decode prog_9_method_42_code 54 = .ok (.isub, 1) ∧ 54 + 1 = 55 := ⟨by decide +kernel, rfl⟩
theorem dc_M_addCommand_55 : decode prog_9_method_42_code 55 = .ok (.iconst 1, 1) ∧ 55 + 1 = 56 := ⟨by decide +kernel, rfl⟩
theorem dc_M_addCommand_56 : decode prog_9_method_42_code 56 = .ok (.invokevirtual 139, 3) ∧ 56 + 3 = 59 := ⟨by decide +kernel, rfl⟩
theorem dc_M_addCommand_59 : decode prog_9_method_42_code 59 = .ok (.iload_n 2, 1) ∧ 59 + 1 = 60 := ⟨by decide +kernel, rfl⟩
theorem dc_M_addCommand_60 : decode prog_9_method_42_code 60 = .ok (.if_icmp .ge 47, 3) ∧ ((60 : Nat) : Int) + (47) = ((107 : Nat) : Int) ∧ 60 + 3 = 63 := ⟨by decide +kernel, by decide, rfl⟩
theorem dc_M_addCommand_63 : decode prog_9_method_42_code 63 = .ok (.aload_n 0, 1) ∧ 63 + 1 = 64 := ⟨by decide +kernel, rfl⟩
theorem dc_M_addCommand_64 : decode prog_9_method_42_code 64 = .ok (.getfield 7, 3) ∧ 64 + 3 = 67 := ⟨by decide +kernel, rfl⟩
theorem dc_M_addCommand_67 : decode prog_9_method_42_code 67 = .ok (.bipush 64, 2) ∧ 67 + 2 = 69 := ⟨by decide +kernel, rfl⟩
theorem dc_M_addCommand_69 : decode prog_9_method_42_code 69 = .ok (.iconst 2, 1) ∧ 69 + 1 = 70 := ⟨by decide +kernel, rfl⟩
theorem dc_M_addCommand_70 : decode prog_9_method_42_code 70 = .ok (.iload_n 3, 1) ∧ 70 + 1 = 71 := ⟨by decide +kernel, rfl⟩
theorem dc_M_addCommand_71 : decode prog_9_method_42_code 71 = .ok (.imul, 1) ∧ 71 + 1 = 72 := ⟨by decide +kernel, rfl⟩
theorem dc_M_addCommand_72 : decode prog_9_method_42_code 72 = .ok (.iadd, 1) ∧ 72 + 1 = 73 := ⟨by decide +kernel, rfl⟩
theorem dc_M_addCommand_73 : decode prog_9_method_42_code 73 = .ok (.aload_n 0, 1) ∧ 73 + 1 = 74 := ⟨by decide +kernel, rfl⟩
theorem dc_M_addCommand_74 : decode prog_9_method_42_code 74 = .ok (.iload_n 3, 1) ∧ 74 + 1 = 75 := ⟨by decide +kernel, rfl⟩
theorem dc_M_addCommand_75 : decode prog_9_method_42_code 75 = .ok (.iconst 1, 1) ∧ 75 + 1 = 76 := ⟨by decide +kernel, rfl⟩
theorem dc_M_addCommand_76 : decode prog_9_method_42_code 76 = .ok (.isub, 1) ∧ 76 + 1 = 77 := ⟨by decide +kernel, rfl⟩
theorem dc_M_addCommand_77 : decode prog_9_method_42_code 77 = .ok (.iconst 0, 1) ∧ 77 + 1 = 78 := ⟨by decide +kernel, rfl⟩
theorem dc_M_addCommand_78 : decode prog_9_method_42_code 78 = .ok (.invokevirtual 139, 3) ∧ 78 + 3 = 81 := ⟨by decide +kernel, rfl⟩
theorem dc_M_addCommand_81 : decode prog_9_method_42_code 81 = .ok (.iastore, 1) ∧ 81 + 1 = 82 := ⟨by decide +kernel, rfl⟩
theorem dc_M_addCommand_82 : decode prog_9_method_42_code 82 = .ok (.aload_n 0, 1) ∧ 82 + 1 = 83 := ⟨by decide +kernel, rfl⟩
theorem dc_M_addCommand_83 : decode prog_9_method_42_code 83 = .ok (.getfield 7, 3) ∧ 83 + 3 = 86 := ⟨by decide +kernel, rfl⟩
theorem dc_M_addCommand_86 : decode prog_9_method_42_code 86 = .ok (.bipush 65, 2) ∧ 86 + 2 = 88 := ⟨by decide +kernel, rfl⟩
theorem dc_M_addCommand_88 : decode prog_9_method_42_code 88 = .ok (.iconst 2, 1) ∧ 88 + 1 = 89 := ⟨by decide +kernel, rfl⟩
theorem dc_M_addCommand_89 : decode prog_9_method_42_code 89 = .ok (.iload_n 3, 1) ∧ 89 + 1 = 90 := ⟨by decide +kernel, rfl⟩
theorem dc_M_addCommand_90 : decode prog_9_method_42_code 90 = .ok (.imul, 1) ∧ 90 + 1 = 91 := ⟨by decide +kernel, rfl⟩
theorem dc_M_addCommand_91 : decode prog_9_method_42_code 91 = .ok (.iadd, 1) ∧ 91 + 1 = 92 := ⟨by decide +kernel, rfl⟩
theorem dc_M_addCommand_92 : decode prog_9_method_42_code 92 = .ok (.aload_n 0, 1) ∧ 92 + 1 = 93 := ⟨by decide +kernel, rfl⟩
theorem dc_M_addCommand_93 : decode prog_9_method_42_code 93 = .ok (.iload_n 3, 1) ∧ 93 + 1 = 94 := ⟨by decide +kernel, rfl⟩
theorem dc_M_addCommand_94 : decode prog_9_method_42_code 94 = .ok (.iconst 1, 1) ∧ 94 + 1 = 95 := ⟨by decide +kernel, rfl⟩
theorem dc_M_addCommand_95 : decode prog_9_method_42_code 95 = .ok (.isub, 1) ∧ 95 + 1 = 96 := ⟨by decide +kernel, rfl⟩
theorem dc_M_addCommand_96 : decode prog_9_method_42_code 96 = .ok (.iconst 1, 1) ∧ 96 + 1 = 97 := ⟨by decide +kernel, rfl⟩
theorem dc_M_addCommand_97 : decode prog_9_method_42_code 97 = .ok (.invokevirtual 139, 3) ∧ 97 + 3 = 100 := ⟨by decide +kernel, rfl⟩
theorem dc_M_addCommand_100 : decode prog_9_method_42_code 100 = .ok (.iastore, 1) ∧ 100 + 1 = 101 := ⟨by decide +kernel, rfl⟩
theorem dc_M_addCommand_101 : decode prog_9_method_42_code 101 = .ok (.iinc 3 (-1), 3) ∧ 101 + 3 = 104 := ⟨by decide +kernel, rfl⟩
theorem dc_M_addCommand_104 : decode prog_9_method_42_code 104 = .ok (.goto (-57), 3) ∧ ((104 : Nat) : Int) + (-57) = ((47 : Nat) : Int) := ⟨by decide +kernel, by decide⟩
theorem dc_M_addCommand_107 : decode prog_9_method_42_code 107 = .ok (.aload_n 0, 1) ∧ 107 + 1 = 108 := ⟨by decide +kernel, rfl⟩
theorem dc_M_addCommand_108 : decode prog_9_method_42_code 108 = .ok (.getfield 7, 3) ∧ 108 + 3 = 111 := ⟨by decide +kernel, rfl⟩
theorem dc_M_addCommand_111 : decode prog_9_method_42_code 111 = .ok (.bipush 64, 2) ∧ 111 + 2 = 113 := ⟨by decide +kernel, rfl⟩
theorem dc_M_addCommand_113 : decode prog_9_method_42_code 113 = .ok (.iconst 2, 1) ∧ 113 + 1 = 114 := ⟨by decide +kernel, rfl⟩
theorem dc_M_addCommand_114 : decode prog_9_method_42_code 114 = .ok (.iload_n 3, 1) ∧ 114 + 1 = 115 := ⟨by decide +kernel, rfl⟩
theorem dc_M_addCommand_115 : decode prog_9_method_42_code 115 = .ok (.imul, 1) ∧ 115 + 1 = 116 := ⟨by decide +kernel, rfl⟩
theorem dc_M_addCommand_116 : decode prog_9_method_42_code 116 = .ok (.iadd, 1) ∧ 116 + 1 = 117 := ⟨by decide +kernel, rfl⟩
theorem dc_M_addCommand_117 : decode prog_9_method_42_code 117 = .ok (.iload_n 1, 1) ∧ 117 + 1 = 118 := ⟨by decide +kernel, rfl⟩
theorem dc_M_addCommand_118 : decode prog_9_method_42_code 118 = .ok (.iastore, 1) ∧ 118 + 1 = 119 := ⟨by decide +kernel, rfl⟩
theorem dc_M_addCommand_119 : decode prog_9_method_42_code 119 = .ok (.aload_n 0, 1) ∧ 119 + 1 = 120 := ⟨by decide +kernel, rfl⟩
theorem dc_M_addCommand_120 : decode prog_9_method_42_code 120 = .ok (.getfield 7, 3) ∧ 120 + 3 = 123 := ⟨by decide +kernel, rfl⟩
theorem dc_M_addCommand_123 : decode prog_9_method_42_code 123 = .ok (.bipush 65, 2) ∧ 123 + 2 = 125 := ⟨by decide +kernel, rfl⟩
theorem dc_M_addCommand_125 : decode prog_9_method_42_code 125 = .ok (.iconst 2, 1) ∧ 125 + 1 = 126 := ⟨by decide +kernel, rfl⟩
theorem dc_M_addCommand_126 : decode prog_9_method_42_code 126 = .ok (.iload_n 3, 1) ∧ 126 + 1 = 127 := ⟨by decide +kernel, rfl⟩
theorem dc_M_addCommand_127 : decode prog_9_method_42_code 127 = .ok (.imul, 1) ∧ 127 + 1 = 128 := ⟨by decide +kernel, rfl⟩
theorem dc_M_addCommand_128 : decode prog_9_method_42_code 128 = .ok (.iadd, 1) ∧ 128 + 1 = 129 := ⟨by decide +kernel, rfl⟩
theorem dc_M_addCommand_129 : decode prog_9_method_42_code 129 = .ok (.iload_n 2, 1) ∧ 129 + 1 = 130 := ⟨by decide +kernel, rfl⟩
theorem dc_M_addCommand_130 : decode prog_9_method_42_code 130 = .ok (.iastore, 1) ∧ 130 + 1 = 131 := ⟨by decide +kernel, rfl⟩
theorem dc_M_addCommand_131 : decode prog_9_method_42_code 131 = .ok (.aload_n 0, 1) ∧ 131 + 1 = 132 := ⟨by decide +kernel, rfl⟩
theorem dc_M_addCommand_132 : decode prog_9_method_42_code 132 = .ok (.getfield 7, 3) ∧ 132 + 3 = 135 := ⟨by decide +kernel, rfl⟩
theorem dc_M_addCommand_135 : decode prog_9_method_42_code 135 = .ok (.bipush 63, 2) ∧ 135 + 2 = 137 := ⟨by decide +kernel, rfl⟩
theorem dc_M_addCommand_137 : decode prog_9_method_42_code 137 = .ok (.dup2, 1) ∧ 137 + 1 = 138 := ⟨by decide +kernel, rfl⟩
theorem dc_M_addCommand_138 : decode prog_9_method_42_code 138 = .ok (.iaload, 1) ∧ 138 + 1 = 139 := ⟨by decide +kernel, rfl⟩
theorem dc_M_addCommand_139 : decode prog_9_method_42_code 139 = .ok (.iconst 1, 1) ∧ 139 + 1 = 140 := ⟨by decide +kernel, rfl⟩
theorem dc_M_addCommand_140 : decode prog_9_method_42_code 140 = .ok (.iadd, 1) ∧ 140 + 1 = 141 := ⟨by decide +kernel, rfl⟩
theorem dc_M_addCommand_141 : decode prog_9_method_42_code 141 = .ok (.iastore, 1) ∧ 141 + 1 = 142 := ⟨by decide +kernel, rfl⟩
theorem dc_M_addCommand_142 : decode prog_9_method_42_code 142 = .ok (.aload_n 0, 1) ∧ 142 + 1 = 143 := ⟨by decide +kernel, rfl⟩
theorem dc_M_addCommand_143 : decode prog_9_method_42_code 143 = .ok (.getfield 7, 3) ∧ 143 + 3 = 146 := ⟨by decide +kernel, rfl⟩
theorem dc_M_addCommand_146 : decode prog_9_method_42_code 146 = .ok (.bipush 63, 2) ∧ 146 + 2 = 148 := ⟨by decide +kernel, rfl⟩
theorem dc_M_addCommand_148 : decode prog_9_method_42_code 148 = .ok (.iaload, 1) ∧ 148 + 1 = 149 := ⟨by decide +kernel, rfl⟩
theorem dc_M_addCommand_149 : decode prog_9_method_42_code 149 = .ok (.ireturn, 1) := by decide +kernel
theorem dc_M_commandOf_0 : decode prog_9_method_41_code 0 = .ok (.aload_n 0, 1) ∧ 0 + 1 = 1 := ⟨by decide +kernel, rfl⟩
theorem dc_M_commandOf_1 : decode prog_9_method_41_code 1 = .ok (.getfield 7, 3) ∧ 1 + 3 = 4 := ⟨by decide +kernel, rfl⟩
theorem dc_M_commandOf_4 : decode prog_9_method_41_code 4 = .ok (.bipush 64, 2) ∧ 4 + 2 = 6 := ⟨by decide +kernel, rfl⟩
theorem dc_M_commandOf_6 : decode prog_9_method_41_code 6 = .ok (.iconst 2, 1) ∧ 6 + 1 = 7 := ⟨by decide +kernel, rfl⟩
theorem dc_M_commandOf_7 : decode prog_9_method_41_code 7 = .ok (.iload_n 1, 1) ∧ 7 + 1 = 8 := ⟨by decide +kernel, rfl⟩
theorem dc_M_commandOf_8 : decode prog_9_method_41_code 8 = .ok (.imul, 1) ∧ 8 + 1 = 9 := ⟨by decide +kernel, rfl⟩
theorem dc_M_commandOf_9 : decode prog_9_method_41_code 9 = .ok (.iadd, 1) ∧ 9 + 1 = 10 := ⟨by decide +kernel, rfl⟩
theorem dc_M_commandOf_10 : decode prog_9_method_41_code 10 = .ok (.iload_n 2, 1) ∧ 10 + 1 = 11 := ⟨by decide +kernel, rfl⟩
theorem dc_M_commandOf_11 : decode prog_9_method_41_code 11 = .ok (.iadd, 1) ∧ 11 + 1 = 12 := ⟨by decide +kernel, rfl⟩
theorem dc_M_commandOf_12 : decode prog_9_method_41_code 12 = .ok (.iaload, 1) ∧ 12 + 1 = 13 := ⟨by decide +kernel, rfl⟩
theorem dc_M_commandOf_13 : decode prog_9_method_41_code 13 = .ok (.ireturn, 1) := by decide +kernel
theorem dc_M_run_0 : decode prog_9_method_43_code 0 = .ok (.iload_n 1, 1) ∧ 0 + 1 = 1 := ⟨by decide +kernel, rfl⟩
theorem dc_M_run_1 : decode prog_9_method_43_code 1 = .ok (.iconst 1, 1) ∧ 1 + 1 = 2 := ⟨by decide +kernel, rfl⟩
theorem dc_M_run_2 : decode prog_9_method_43_code 2 = .ok (.bipush 8, 2) ∧ 2 + 2 = 4 := ⟨by decide +kernel, rfl⟩
theorem dc_M_run_4 : decode prog_9_method_43_code 4 = .ok (.invokestatic 31, 3) ∧ 4 + 3 = 7 := ⟨by decide +kernel, rfl⟩
theorem dc_M_run_7 : decode prog_9_method_43_code 7 = .ok (.ifCond .ne 6, 3) ∧ ((7 : Nat) : Int) + (6) = ((13 : Nat) : Int) ∧ 7 + 3 = 10 := ⟨by decide +kernel, by decide, rfl⟩
theorem dc_M_run_10 : decode prog_9_method_43_code 10 = .ok (.ldc 64, 2) ∧ 10 + 2 = 12 := ⟨by decide +kernel, rfl⟩
theorem dc_M_run_12 : decode prog_9_method_43_code 12 = .ok (.ireturn, 1) := by decide +kernel
theorem dc_M_run_13 : decode prog_9_method_43_code 13 = .ok (.aload_n 0, 1) ∧ 13 + 1 = 14 := ⟨by decide +kernel, rfl⟩
theorem dc_M_run_14 : decode prog_9_method_43_code 14 = .ok (.getfield 7, 3) ∧ 14 + 3 = 17 := ⟨by decide +kernel, rfl⟩
theorem dc_M_run_17 : decode prog_9_method_43_code 17 = .ok (.bipush 63, 2) ∧ 17 + 2 = 19 := ⟨by decide +kernel, rfl⟩
theorem dc_M_run_19 : decode prog_9_method_43_code 19 = .ok (.iaload, 1) ∧ 19 + 1 = 20 := ⟨by decide +kernel, rfl⟩
theorem dc_M_run_20 : decode prog_9_method_43_code 20 = .ok (.ifCond .ne 6, 3) ∧ ((20 : Nat) : Int) + (6) = ((26 : Nat) : Int) ∧ 20 + 3 = 23 := ⟨by decide +kernel, by decide, rfl⟩
theorem dc_M_run_23 : decode prog_9_method_43_code 23 = .ok (.ldc 30, 2) ∧ 23 + 2 = 25 := ⟨by decide +kernel, rfl⟩
theorem dc_M_run_25 : decode prog_9_method_43_code 25 = .ok (.ireturn, 1) := by decide +kernel
theorem dc_M_run_26 : decode prog_9_method_43_code 26 = .ok (.aload_n 0, 1) ∧ 26 + 1 = 27 := ⟨by decide +kernel, rfl⟩
theorem dc_M_run_27 : decode prog_9_method_43_code 27 = .ok (.invokevirtual 47, 3) ∧ 27 + 3 = 30 := ⟨by decide +kernel, rfl⟩
theorem dc_M_run_30 : decode prog_9_method_43_code 30 = .ok (.iconst 0, 1) ∧ 30 + 1 = 31 := ⟨by decide +kernel, rfl⟩
theorem dc_M_run_31 : decode prog_9_method_43_code 31 = .ok (.istore_n 2, 1) ∧ 31 + 1 = 32 := ⟨by decide +kernel, rfl⟩
theorem dc_M_run_32 : decode prog_9_method_43_code 32 = .ok (.iload_n 2, 1) ∧ 32 + 1 = 33 := ⟨by decide +kernel, rfl⟩
theorem dc_M_run_33 : decode prog_9_method_43_code 33 = .ok (.iload_n 1, 1) ∧ 33 + 1 = 34 := ⟨by decide +kernel, rfl⟩
theorem dc_M_run_34 : decode prog_9_method_43_code 34 = .ok (.if_icmp .ge 98, 3) ∧ ((34 : Nat) : Int) + (98) = ((132 : Nat) : Int) ∧ 34 + 3 = 37 := ⟨by decide +kernel, by decide, rfl⟩
theorem dc_M_run_37 : decode prog_9_method_43_code 37 = .ok (.aload_n 0, 1) ∧ 37 + 1 = 38 := ⟨by decide +kernel, rfl⟩
theorem dc_M_run_38 : decode prog_9_method_43_code 38 = .ok (.getfield 7, 3) ∧ 38 + 3 = 41 := ⟨by decide +kernel, rfl⟩
theorem dc_M_run_41 : decode prog_9_method_43_code 41 = .ok (.bipush 63, 2) ∧ 41 + 2 = 43 := ⟨by decide +kernel, rfl⟩
theorem dc_M_run_43 : decode prog_9_method_43_code 43 = .ok (.iaload, 1) ∧ 43 + 1 = 44 := ⟨by decide +kernel, rfl⟩
theorem dc_M_run_44 : decode prog_9_method_43_code 44 = .ok (.ifCond .le 88, 3) ∧ ((44 : Nat) : Int) + (88) = ((132 : Nat) : Int) ∧ 44 + 3 = 47 := ⟨by decide +kernel, by decide, rfl⟩
theorem dc_M_run_47 : decode prog_9_method_43_code 47 = .ok (.aload_n 0, 1) ∧ 47 + 1 = 48 := ⟨by decide +kernel, rfl⟩
theorem dc_M_run_48 : decode prog_9_method_43_code 48 = .ok (.iconst 0, 1) ∧ 48 + 1 = 49 := ⟨by decide +kernel, rfl⟩
theorem dc_M_run_49 : decode prog_9_method_43_code 49 = .ok (.iconst 0, 1) ∧ 49 + 1 = 50 := ⟨by decide +kernel, rfl⟩
theorem dc_M_run_50 : decode prog_9_method_43_code 50 = .ok (.invokevirtual 139, 3) ∧ 50 + 3 = 53 := ⟨by decide +kernel, rfl⟩
theorem dc_M_run_53 : decode prog_9_method_43_code 53 = .ok (.istore_n 3, 1) ∧ 53 + 1 = 54 := ⟨by decide +kernel, rfl⟩
theorem dc_M_run_54 : decode prog_9_method_43_code 54 = .ok (.aload_n 0, 1) ∧ 54 + 1 = 55 := ⟨by decide +kernel, rfl⟩
theorem dc_M_run_55 : decode prog_9_method_43_code 55 = .ok (.getfield 7, 3) ∧ 55 + 3 = 58 := ⟨by decide +kernel, rfl⟩
theorem dc_M_run_58 : decode prog_9_method_43_code 58 = .ok (.bipush 63, 2) ∧ 58 + 2 = 60 := ⟨by decide +kernel, rfl⟩
theorem dc_M_run_60 : decode prog_9_method_43_code 60 = .ok (.dup2, 1) ∧ 60 + 1 = 61 := ⟨by decide +kernel, rfl⟩
theorem dc_M_run_61 : decode prog_9_method_43_code 61 = .ok (.iaload, 1) ∧ 61 + 1 = 62 := ⟨by decide +kernel, rfl⟩
theorem dc_M_run_62 : decode prog_9_method_43_code 62 = .ok (.iconst 1, 1) ∧ 62 + 1 = 63 := ⟨by decide +kernel, rfl⟩
theorem dc_M_run_63 : decode prog_9_method_43_code 63 = .ok (.isub, 1) ∧ 63 + 1 = 64 := ⟨by decide +kernel, rfl⟩
theorem dc_M_run_64 : decode prog_9_method_43_code 64 = .ok (.iastore, 1) ∧ 64 + 1 = 65 := ⟨by decide +kernel, rfl⟩
theorem dc_M_run_65 : decode prog_9_method_43_code 65 = .ok (.iconst 1, 1) ∧ 65 + 1 = 66 := ⟨by decide +kernel, rfl⟩
theorem dc_M_run_66 : decode prog_9_method_43_code 66 = .ok (.istore 4, 2) ∧ 66 + 2 = 68 := ⟨by decide +kernel, rfl⟩
theorem dc_M_run_68 : decode prog_9_method_43_code 68 = .ok (.iload 4, 2) ∧ 68 + 2 = 70 := ⟨by decide +kernel, rfl⟩
theorem dc_M_run_70 : decode prog_9_method_43_code 70 = .ok (.iconst 2, 1) ∧ 70 + 1 = 71 := ⟨by decide +kernel, rfl⟩
theorem dc_M_run_71 : decode prog_9_method_43_code 71 = .ok (.aload_n 0, 1) ∧ 71 + 1 = 72 := ⟨by decide +kernel, rfl⟩
theorem dc_M_run_72 : decode prog_9_method_43_code 72 = .ok (.getfield 7, 3) ∧ 72 + 3 = 75 := ⟨by decide +kernel, rfl⟩
theorem dc_M_run_75 : decode prog_9_method_43_code 75 = .ok (.bipush 63, 2) ∧ 75 + 2 = 77 := ⟨by decide +kernel, rfl⟩
theorem dc_M_run_77 : decode prog_9_method_43_code 77 = .ok (.iaload, 1) ∧ 77 + 1 = 78 := ⟨by decide +kernel, rfl⟩
theorem dc_M_run_78 : decode prog_9_method_43_code 78 = .ok (.imul, 1) ∧ 78 + 1 = 79 := ⟨by decide +kernel, rfl⟩
theorem dc_M_run_79 : decode prog_9_method_43_code 79 = .ok (.if_icmp .gt 31, 3) ∧ ((79 : Nat) : Int) + (31) = ((110 : Nat) : Int) ∧ 79 + 3 = 82 := ⟨by decide +kernel, by decide, rfl⟩
theorem dc_M_run_82 : decode prog_9_method_43_code 82 = .ok (.aload_n 0, 1) ∧ 82 + 1 = 83 := ⟨by decide +kernel, rfl⟩
theorem dc_M_run_83 : decode prog_9_method_43_code 83 = .ok (.getfield 7, 3) ∧ 83 + 3 = 86 := ⟨by decide +kernel, rfl⟩
theorem dc_M_run_86 : decode prog_9_method_43_code 86 = .ok (.bipush 63, 2) ∧ 86 + 2 = 88 := ⟨by decide +kernel, rfl⟩
theorem dc_M_run_88 : decode prog_9_method_43_code 88 = .ok (.iload 4, 2) ∧ 88 + 2 = 90 := ⟨by decide +kernel, rfl⟩
theorem dc_M_run_90 : decode prog_9_method_43_code 90 = .ok (.iadd, 1) ∧ 90 + 1 = 91 := ⟨by decide +kernel, rfl⟩
theorem dc_M_run_91 : decode prog_9_method_43_code 91 = .ok (.aload_n 0, 1) ∧ 91 + 1 = 92 := ⟨by decide +kernel, rfl⟩
theorem dc_M_run_92 : decode prog_9_method_43_code 92 = .ok (.getfield 7, 3) ∧ 92 + 3 = 95 := ⟨by decide +kernel, rfl⟩
theorem dc_M_run_95 : decode prog_9_method_43_code 95 = .ok (.bipush 63, 2) ∧ 95 + 2 = 97 := ⟨by decide +kernel, rfl⟩
theorem dc_M_run_97 : decode prog_9_method_43_code 97 = .ok (.iload 4, 2) ∧ 97 + 2 = 99 := ⟨by decide +kernel, rfl⟩
theorem dc_M_run_99 : decode prog_9_method_43_code 99 = .ok (.iadd, 1) ∧ 99 + 1 = 100 := ⟨by decide +kernel, rfl⟩
theorem dc_M_run_100 : decode prog_9_method_43_code 100 = .ok (.iconst 2, 1) ∧ 100 + 1 = 101 := ⟨by decide +kernel, rfl⟩
theorem dc_M_run_101 : decode prog_9_method_43_code 101 = .ok (.iadd, 1) ∧ 101 + 1 = 102 := ⟨by decide +kernel, rfl⟩
theorem dc_M_run_102 : decode prog_9_method_43_code 102 = .ok (.iaload, 1) ∧ 102 + 1 = 103 := ⟨by decide +kernel, rfl⟩
theorem dc_M_run_103 : decode prog_9_method_43_code 103 = .ok (.iastore, 1) ∧ 103 + 1 = 104 := ⟨by decide +kernel, rfl⟩
theorem dc_M_run_104 : decode prog_9_method_43_code 104 = .ok (.iinc 4 1, 3) ∧ 104 + 3 = 107 := ⟨by decide +kernel, rfl⟩
theorem dc_M_run_107 : decode prog_9_method_43_code 107 = .ok (.goto (-39), 3) ∧ ((107 : Nat) : Int) + (-39) = ((68 : Nat) : Int) := ⟨by decide +kernel, by decide⟩
theorem dc_M_run_110 : decode prog_9_method_43_code 110 = .ok (.aload_n 0, 1) ∧ 110 + 1 = 111 := ⟨by decide +kernel, rfl⟩
theorem dc_M_run_111 : decode prog_9_method_43_code 111 = .ok (.iload_n 3, 1) ∧ 111 + 1 = 112 := ⟨by decide +kernel, rfl⟩
theorem dc_M_run_112 : decode prog_9_method_43_code 112 = .ok (.invokevirtual 129, 3) ∧ 112 + 3 = 115 := ⟨by decide +kernel, rfl⟩
theorem dc_M_run_115 : decode prog_9_method_43_code 115 = .ok (.invokestatic 65, 3) ∧ 115 + 3 = 118 := ⟨by decide +kernel, rfl⟩
theorem dc_M_run_118 : decode prog_9_method_43_code 118 = .ok (.ifCond .eq 8, 3) ∧ ((118 : Nat) : Int) + (8) = ((126 : Nat) : Int) ∧ 118 + 3 = 121 := ⟨by decide +kernel, by decide, rfl⟩
theorem dc_M_run_121 : decode prog_9_method_43_code 121 = .ok (.aload_n 0, 1) ∧ 121 + 1 = 122 := ⟨by decide +kernel, rfl⟩
theorem dc_M_run_122 : decode prog_9_method_43_code 122 = .ok (.iload_n 3, 1) ∧ 122 + 1 = 123 := ⟨by decide +kernel, rfl⟩
theorem dc_M_run_123 : decode prog_9_method_43_code 123 = .ok (.invokevirtual 136, 3) ∧ 123 + 3 = 126 := ⟨by decide +kernel, rfl⟩
theorem dc_M_run_126 : decode prog_9_method_43_code 126 = .ok (.iinc 2 1, 3) ∧ 126 + 3 = 129 := ⟨by decide +kernel, rfl⟩
theorem dc_M_run_129 : decode prog_9_method_43_code 129 = .ok (.goto (-97), 3) ∧ ((129 : Nat) : Int) + (-97) = ((32 : Nat) : Int) := ⟨by decide +kernel, by decide⟩
theorem dc_M_run_132 : decode prog_9_method_43_code 132 = .ok (.aload_n 0, 1) ∧ 132 + 1 = 133 := ⟨by decide +kernel, rfl⟩
theorem dc_M_run_133 : decode prog_9_method_43_code 133 = .ok (.getfield 7, 3) ∧ 133 + 3 = 136 := ⟨by decide +kernel, rfl⟩
theorem dc_M_run_136 : decode prog_9_method_43_code 136 = .ok (.bipush 63, 2) ∧ 136 + 2 = 138 := ⟨by decide +kernel, rfl⟩
theorem dc_M_run_138 : decode prog_9_method_43_code 138 = .ok (.iaload, 1) ∧ 138 + 1 = 139 := ⟨by decide +kernel, rfl⟩
theorem dc_M_run_139 : decode prog_9_method_43_code 139 = .ok (.ireturn, 1) := by decide +kernel
theorem dc_M_home_0 : decode prog_9_method_47_code 0 = .ok (.aload_n 0, 1) ∧ 0 + 1 = 1 := ⟨by decide +kernel, rfl⟩
theorem dc_M_home_1 : decode prog_9_method_47_code 1 = .ok (.iload_n 1, 1) ∧ 1 + 1 = 2 := ⟨by decide +kernel, rfl⟩
theorem dc_M_home_2 : decode prog_9_method_47_code 2 = .ok (.invokevirtual 146, 3) ∧ 2 + 3 = 5 := ⟨by decide +kernel, rfl⟩
theorem dc_M_home_5 : decode prog_9_method_47_code 5 = .ok (.istore_n 2, 1) ∧ 5 + 1 = 6 := ⟨by decide +kernel, rfl⟩
theorem dc_M_home_6 : decode prog_9_method_47_code 6 = .ok (.iload_n 2, 1) ∧ 6 + 1 = 7 := ⟨by decide +kernel, rfl⟩
theorem dc_M_home_7 : decode prog_9_method_47_code 7 = .ok (.ifCond .eq 5, 3) ∧ ((7 : Nat) : Int) + (5) = ((12 : Nat) : Int) ∧ 7 + 3 = 10 := ⟨by decide +kernel, by decide, rfl⟩
theorem dc_M_home_10 : decode prog_9_method_47_code 10 = .ok (.iload_n 2, 1) ∧ 10 + 1 = 11 := ⟨by decide +kernel, rfl⟩
theorem dc_M_home_11 : decode prog_9_method_47_code 11 = .ok (.ireturn, 1) := by decide +kernel
theorem dc_M_home_12 : decode prog_9_method_47_code 12 = .ok (.aload_n 0, 1) ∧ 12 + 1 = 13 := ⟨by decide +kernel, rfl⟩
theorem dc_M_home_13 : decode prog_9_method_47_code 13 = .ok (.iload_n 1, 1) ∧ 13 + 1 = 14 := ⟨by decide +kernel, rfl⟩
theorem dc_M_home_14 : decode prog_9_method_47_code 14 = .ok (.invokevirtual 149, 3) ∧ 14 + 3 = 17 := ⟨by decide +kernel, rfl⟩
theorem dc_M_home_17 : decode prog_9_method_47_code 17 = .ok (.aload_n 0, 1) ∧ 17 + 1 = 18 := ⟨by decide +kernel, rfl⟩
theorem dc_M_home_18 : decode prog_9_method_47_code 18 = .ok (.getfield 7, 3) ∧ 18 + 3 = 21 := ⟨by decide +kernel, rfl⟩
theorem dc_M_home_21 : decode prog_9_method_47_code 21 = .ok (.bipush 6, 2) ∧ 21 + 2 = 23 := ⟨by decide +kernel, rfl⟩
theorem dc_M_home_23 : decode prog_9_method_47_code 23 = .ok (.iaload, 1) ∧ 23 + 1 = 24 := ⟨by decide +kernel, rfl⟩
theorem dc_M_home_24 : decode prog_9_method_47_code 24 = .ok (.isub, 1) ∧ 24 + 1 = 25 := ⟨by decide +kernel, rfl⟩
theorem dc_M_home_25 : decode prog_9_method_47_code 25 = .ok (.istore_n 3, 1) ∧ 25 + 1 = 26 := ⟨by decide +kernel, rfl⟩
theorem dc_M_home_26 : decode prog_9_method_47_code 26 = .ok (.aload_n 0, 1) ∧ 26 + 1 = 27 := ⟨by decide +kernel, rfl⟩
theorem dc_M_home_27 : decode prog_9_method_47_code 27 = .ok (.getfield 7, 3) ∧ 27 + 3 = 30 := ⟨by decide +kernel, rfl⟩
theorem dc_M_home_30 : decode prog_9_method_47_code 30 = .ok (.bipush 6, 2) ∧ 30 + 2 = 32 := ⟨by decide +kernel, rfl⟩
theorem dc_M_home_32 : decode prog_9_method_47_code 32 = .ok (.dup2, 1) ∧ 32 + 1 = 33 := ⟨by decide +kernel, rfl⟩
theorem dc_M_home_33 : decode prog_9_method_47_code 33 = .ok (.iaload, 1) ∧ 33 + 1 = 34 := ⟨by decide +kernel, rfl⟩
theorem dc_M_home_34 : decode prog_9_method_47_code 34 = .ok (.iload_n 3, 1) ∧ 34 + 1 = 35 := ⟨by decide +kernel, rfl⟩
theorem dc_M_home_35 : decode prog_9_method_47_code 35 = .ok (.iadd, 1) ∧ 35 + 1 = 36 := ⟨by decide +kernel, rfl⟩
theorem dc_M_home_36 : decode prog_9_method_47_code 36 = .ok (.iastore, 1) ∧ 36 + 1 = 37 := ⟨by decide +kernel, rfl⟩
theorem dc_M_home_37 : decode prog_9_method_47_code 37 = .ok (.aload_n 0, 1) ∧ 37 + 1 = 38 := ⟨by decide +kernel, rfl⟩
theorem dc_M_home_38 : decode prog_9_method_47_code 38 = .ok (.getfield 7, 3) ∧ 38 + 3 = 41 := ⟨by decide +kernel, rfl⟩
theorem dc_M_home_41 : decode prog_9_method_47_code 41 = .ok (.bipush 11, 2) ∧ 41 + 2 = 43 := ⟨by decide +kernel, rfl⟩
theorem dc_M_home_43 : decode prog_9_method_47_code 43 = .ok (.dup2, 1) ∧ 43 + 1 = 44 := ⟨by decide +kernel, rfl⟩
theorem dc_M_home_44 : decode prog_9_method_47_code 44 = .ok (.iaload, 1) ∧ 44 + 1 = 45 := ⟨by decide +kernel, rfl⟩
theorem dc_M_home_45 : decode prog_9_method_47_code 45 = .ok (.iload_n 3, 1) ∧ 45 + 1 = 46 := ⟨by decide +kernel, rfl⟩
theorem dc_M_home_46 : decode prog_9_method_47_code 46 = .ok (.iadd, 1) ∧ 46 + 1 = 47 := ⟨by decide +kernel, rfl⟩
theorem dc_M_home_47 : decode prog_9_method_47_code 47 = .ok (.iastore, 1) ∧ 47 + 1 = 48 := ⟨by decide +kernel, rfl⟩
theorem dc_M_home_48 : decode prog_9_method_47_code 48 = .ok (.iload_n 3, 1) ∧ 48 + 1 = 49 := ⟨by decide +kernel, rfl⟩
theorem dc_M_home_49 : decode prog_9_method_47_code 49 = .ok (.ireturn, 1) := by decide +kernel
theorem dc_M_reaches_0 : decode prog_9_method_46_code 0 = .ok (.iload_n 1, 1) ∧ 0 + 1 = 1 := ⟨by decide +kernel, rfl⟩
theorem dc_M_reaches_1 : decode prog_9_method_46_code 1 = .ok (.iconst 0, 1) ∧ 1 + 1 = 2 := ⟨by decide +kernel, rfl⟩
theorem dc_M_reaches_2 : decode prog_9_method_46_code 2 = .ok (.iconst 1, 1) ∧ 2 + 1 = 3 := ⟨by decide +kernel, rfl⟩
theorem dc_M_reaches_3 : decode prog_9_method_46_code 3 = .ok (.invokestatic 31, 3) ∧ 3 + 3 = 6 := ⟨by decide +kernel, rfl⟩
theorem dc_M_reaches_6 : decode prog_9_method_46_code 6 = .ok (.ifCond .ne 6, 3) ∧ ((6 : Nat) : Int) + (6) = ((12 : Nat) : Int) ∧ 6 + 3 = 9 := ⟨by decide +kernel, by decide, rfl⟩
theorem dc_M_reaches_9 : decode prog_9_method_46_code 9 = .ok (.ldc 64, 2) ∧ 9 + 2 = 11 := ⟨by decide +kernel, rfl⟩
theorem dc_M_reaches_11 : decode prog_9_method_46_code 11 = .ok (.ireturn, 1) := by decide +kernel
theorem dc_M_reaches_12 : decode prog_9_method_46_code 12 = .ok (.aload_n 0, 1) ∧ 12 + 1 = 13 := ⟨by decide +kernel, rfl⟩
theorem dc_M_reaches_13 : decode prog_9_method_46_code 13 = .ok (.getfield 7, 3) ∧ 13 + 3 = 16 := ⟨by decide +kernel, rfl⟩
theorem dc_M_reaches_16 : decode prog_9_method_46_code 16 = .ok (.bipush 18, 2) ∧ 16 + 2 = 18 := ⟨by decide +kernel, rfl⟩
theorem dc_M_reaches_18 : decode prog_9_method_46_code 18 = .ok (.iaload, 1) ∧ 18 + 1 = 19 := ⟨by decide +kernel, rfl⟩
theorem dc_M_reaches_19 : decode prog_9_method_46_code 19 = .ok (.ifCond .ne 6, 3) ∧ ((19 : Nat) : Int) + (6) = ((25 : Nat) : Int) ∧ 19 + 3 = 22 := ⟨by decide +kernel, by decide, rfl⟩
theorem dc_M_reaches_22 : decode prog_9_method_46_code 22 = .ok (.ldc 30, 2) ∧ 22 + 2 = 24 := ⟨by decide +kernel, rfl⟩
theorem dc_M_reaches_24 : decode prog_9_method_46_code 24 = .ok (.ireturn, 1) := by decide +kernel
theorem dc_M_reaches_25 : decode prog_9_method_46_code 25 = .ok (.aload_n 0, 1) ∧ 25 + 1 = 26 := ⟨by decide +kernel, rfl⟩
theorem dc_M_reaches_26 : decode prog_9_method_46_code 26 = .ok (.invokevirtual 99, 3) ∧ 26 + 3 = 29 := ⟨by decide +kernel, rfl⟩
theorem dc_M_reaches_29 : decode prog_9_method_46_code 29 = .ok (.aload_n 0, 1) ∧ 29 + 1 = 30 := ⟨by decide +kernel, rfl⟩
theorem dc_M_reaches_30 : decode prog_9_method_46_code 30 = .ok (.iload_n 1, 1) ∧ 30 + 1 = 31 := ⟨by decide +kernel, rfl⟩
theorem dc_M_reaches_31 : decode prog_9_method_46_code 31 = .ok (.invokevirtual 142, 3) ∧ 31 + 3 = 34 := ⟨by decide +kernel, rfl⟩
theorem dc_M_reaches_34 : decode prog_9_method_46_code 34 = .ok (.istore_n 2, 1) ∧ 34 + 1 = 35 := ⟨by decide +kernel, rfl⟩
theorem dc_M_reaches_35 : decode prog_9_method_46_code 35 = .ok (.aload_n 0, 1) ∧ 35 + 1 = 36 := ⟨by decide +kernel, rfl⟩
theorem dc_M_reaches_36 : decode prog_9_method_46_code 36 = .ok (.invokevirtual 106, 3) ∧ 36 + 3 = 39 := ⟨by decide +kernel, rfl⟩
theorem dc_M_reaches_39 : decode prog_9_method_46_code 39 = .ok (.iload_n 2, 1) ∧ 39 + 1 = 40 := ⟨by decide +kernel, rfl⟩
theorem dc_M_reaches_40 : decode prog_9_method_46_code 40 = .ok (.ifCond .ne 6, 3) ∧ ((40 : Nat) : Int) + (6) = ((46 : Nat) : Int) ∧ 40 + 3 = 43 := ⟨by decide +kernel, by decide, rfl⟩
theorem dc_M_reaches_43 : decode prog_9_method_46_code 43 = .ok (.ldc 145, 2) ∧ 43 + 2 = 45 := ⟨by decide +kernel, rfl⟩
theorem dc_M_reaches_45 : decode prog_9_method_46_code 45 = .ok (.ireturn, 1) := by decide +kernel
theorem dc_M_reaches_46 : decode prog_9_method_46_code 46 = .ok (.aload_n 0, 1) ∧ 46 + 1 = 47 := ⟨by decide +kernel, rfl⟩
theorem dc_M_reaches_47 : decode prog_9_method_46_code 47 = .ok (.invokevirtual 47, 3) ∧ 47 + 3 = 50 := ⟨by decide +kernel, rfl⟩
theorem dc_M_reaches_50 : decode prog_9_method_46_code 50 = .ok (.aload_n 0, 1) ∧ 50 + 1 = 51 := ⟨by decide +kernel, rfl⟩
theorem dc_M_reaches_51 : decode prog_9_method_46_code 51 = .ok (.invokevirtual 106, 3) ∧ 51 + 3 = 54 := ⟨by decide +kernel, rfl⟩
theorem dc_M_reaches_54 : decode prog_9_method_46_code 54 = .ok (.aload_n 0, 1) ∧ 54 + 1 = 55 := ⟨by decide +kernel, rfl⟩
theorem dc_M_reaches_55 : decode prog_9_method_46_code 55 = .ok (.getfield 7, 3) ∧ 55 + 3 = 58 := ⟨by decide +kernel, rfl⟩
theorem dc_M_reaches_58 : decode prog_9_method_46_code 58 = .ok (.bipush 17, 2) ∧ 58 + 2 = 60 := ⟨by decide +kernel, rfl⟩
theorem dc_M_reaches_60 : decode prog_9_method_46_code 60 = .ok (.dup2, 1) ∧ 60 + 1 = 61 := ⟨by decide +kernel, rfl⟩
theorem dc_M_reaches_61 : decode prog_9_method_46_code 61 = .ok (.iaload, 1) ∧ 61 + 1 = 62 := ⟨by decide +kernel, rfl⟩
theorem dc_M_reaches_62 : decode prog_9_method_46_code 62 = .ok (.iconst 1, 1) ∧ 62 + 1 = 63 := ⟨by decide +kernel, rfl⟩
theorem dc_M_reaches_63 : decode prog_9_method_46_code 63 = .ok (.iadd, 1) ∧ 63 + 1 = 64 := ⟨by decide +kernel, rfl⟩
theorem dc_M_reaches_64 : decode prog_9_method_46_code 64 = .ok (.iastore, 1) ∧ 64 + 1 = 65 := ⟨by decide +kernel, rfl⟩
theorem dc_M_reaches_65 : decode prog_9_method_46_code 65 = .ok (.iconst 0, 1) ∧ 65 + 1 = 66 := ⟨by decide +kernel, rfl⟩
theorem dc_M_reaches_66 : decode prog_9_method_46_code 66 = .ok (.ireturn, 1) := by decide +kernel
theorem dc_M_seeks_0 : decode prog_9_method_44_code 0 = .ok (.aload_n 0, 1) ∧ 0 + 1 = 1 := ⟨by decide +kernel, rfl⟩
theorem dc_M_seeks_1 : decode prog_9_method_44_code 1 = .ok (.getfield 7, 3) ∧ 1 + 3 = 4 := ⟨by decide +kernel, rfl⟩
theorem dc_M_seeks_4 : decode prog_9_method_44_code 4 = .ok (.bipush 19, 2) ∧ 4 + 2 = 6 := ⟨by decide +kernel, rfl⟩
theorem dc_M_seeks_6 : decode prog_9_method_44_code 6 = .ok (.iaload, 1) ∧ 6 + 1 = 7 := ⟨by decide +kernel, rfl⟩
theorem dc_M_seeks_7 : decode prog_9_method_44_code 7 = .ok (.istore_n 2, 1) ∧ 7 + 1 = 8 := ⟨by decide +kernel, rfl⟩
theorem dc_M_seeks_8 : decode prog_9_method_44_code 8 = .ok (.aload_n 0, 1) ∧ 8 + 1 = 9 := ⟨by decide +kernel, rfl⟩
theorem dc_M_seeks_9 : decode prog_9_method_44_code 9 = .ok (.getfield 7, 3) ∧ 9 + 3 = 12 := ⟨by decide +kernel, rfl⟩
theorem dc_M_seeks_12 : decode prog_9_method_44_code 12 = .ok (.bipush 20, 2) ∧ 12 + 2 = 14 := ⟨by decide +kernel, rfl⟩
theorem dc_M_seeks_14 : decode prog_9_method_44_code 14 = .ok (.iaload, 1) ∧ 14 + 1 = 15 := ⟨by decide +kernel, rfl⟩
theorem dc_M_seeks_15 : decode prog_9_method_44_code 15 = .ok (.istore_n 3, 1) ∧ 15 + 1 = 16 := ⟨by decide +kernel, rfl⟩
theorem dc_M_seeks_16 : decode prog_9_method_44_code 16 = .ok (.sipush 20001, 3) ∧ 16 + 3 = 19 := ⟨by decide +kernel, rfl⟩
theorem dc_M_seeks_19 : decode prog_9_method_44_code 19 = .ok (.istore 4, 2) ∧ 19 + 2 = 21 := ⟨by decide +kernel, rfl⟩
theorem dc_M_seeks_21 : decode prog_9_method_44_code 21 = .ok (.iload 4, 2) ∧ 21 + 2 = 23 := ⟨by decide +kernel, rfl⟩
theorem dc_M_seeks_23 : decode prog_9_method_44_code 23 = .ok (.ifCond .le 57, 3) ∧ ((23 : Nat) : Int) + (57) = ((80 : Nat) : Int) ∧ 23 + 3 = 26 := ⟨by decide +kernel, by decide, rfl⟩
theorem dc_M_seeks_26 : decode prog_9_method_44_code 26 = .ok (.iload_n 1, 1) ∧ 26 + 1 = 27 := ⟨by decide +kernel, rfl⟩
theorem dc_M_seeks_27 : decode prog_9_method_44_code 27 = .ok (.ifCond .ne 20, 3) ∧ ((27 : Nat) : Int) + (20) = ((47 : Nat) : Int) ∧ 27 + 3 = 30 := ⟨by decide +kernel, by decide, rfl⟩
theorem dc_M_seeks_30 : decode prog_9_method_44_code 30 = .ok (.aload_n 0, 1) ∧ 30 + 1 = 31 := ⟨by decide +kernel, rfl⟩
theorem dc_M_seeks_31 : decode prog_9_method_44_code 31 = .ok (.getfield 7, 3) ∧ 31 + 3 = 34 := ⟨by decide +kernel, rfl⟩
theorem dc_M_seeks_34 : decode prog_9_method_44_code 34 = .ok (.bipush 8, 2) ∧ 34 + 2 = 36 := ⟨by decide +kernel, rfl⟩
theorem dc_M_seeks_36 : decode prog_9_method_44_code 36 = .ok (.iaload, 1) ∧ 36 + 1 = 37 := ⟨by decide +kernel, rfl⟩
theorem dc_M_seeks_37 : decode prog_9_method_44_code 37 = .ok (.iload_n 2, 1) ∧ 37 + 1 = 38 := ⟨by decide +kernel, rfl⟩
theorem dc_M_seeks_38 : decode prog_9_method_44_code 38 = .ok (.bipush 16, 2) ∧ 38 + 2 = 40 := ⟨by decide +kernel, rfl⟩
theorem dc_M_seeks_40 : decode prog_9_method_44_code 40 = .ok (.isub, 1) ∧ 40 + 1 = 41 := ⟨by decide +kernel, rfl⟩
theorem dc_M_seeks_41 : decode prog_9_method_44_code 41 = .ok (.if_icmp .lt 39, 3) ∧ ((41 : Nat) : Int) + (39) = ((80 : Nat) : Int) ∧ 41 + 3 = 44 := ⟨by decide +kernel, by decide, rfl⟩
theorem dc_M_seeks_44 : decode prog_9_method_44_code 44 = .ok (.goto 17, 3) ∧ ((44 : Nat) : Int) + (17) = ((61 : Nat) : Int) := ⟨by decide +kernel, by decide⟩
theorem dc_M_seeks_47 : decode prog_9_method_44_code 47 = .ok (.aload_n 0, 1) ∧ 47 + 1 = 48 := ⟨by decide +kernel, rfl⟩
theorem dc_M_seeks_48 : decode prog_9_method_44_code 48 = .ok (.getfield 7, 3) ∧ 48 + 3 = 51 := ⟨by decide +kernel, rfl⟩
theorem dc_M_seeks_51 : decode prog_9_method_44_code 51 = .ok (.bipush 8, 2) ∧ 51 + 2 = 53 := ⟨by decide +kernel, rfl⟩
theorem dc_M_seeks_53 : decode prog_9_method_44_code 53 = .ok (.iaload, 1) ∧ 53 + 1 = 54 := ⟨by decide +kernel, rfl⟩
theorem dc_M_seeks_54 : decode prog_9_method_44_code 54 = .ok (.iload_n 3, 1) ∧ 54 + 1 = 55 := ⟨by decide +kernel, rfl⟩
theorem dc_M_seeks_55 : decode prog_9_method_44_code 55 = .ok (.bipush 16, 2) ∧ 55 + 2 = 57 := ⟨by decide +kernel, rfl⟩
theorem dc_M_seeks_57 : decode prog_9_method_44_code 57 = .ok (.iadd, 1) ∧ 57 + 1 = 58 := ⟨by decide +kernel, rfl⟩
theorem dc_M_seeks_58 : decode prog_9_method_44_code 58 = .ok (.if_icmp .gt 22, 3) ∧ ((58 : Nat) : Int) + (22) = ((80 : Nat) : Int) ∧ 58 + 3 = 61 := ⟨by decide +kernel, by decide, rfl⟩
theorem dc_M_seeks_61 : decode prog_9_method_44_code 61 = .ok (.aload_n 0, 1) ∧ 61 + 1 = 62 := ⟨by decide +kernel, rfl⟩
theorem dc_M_seeks_62 : decode prog_9_method_44_code 62 = .ok (.iload_n 1, 1) ∧ 62 + 1 = 63 := ⟨by decide +kernel, rfl⟩
theorem dc_M_seeks_63 : decode prog_9_method_44_code 63 = .ok (.ifCond .ne 7, 3) ∧ ((63 : Nat) : Int) + (7) = ((70 : Nat) : Int) ∧ 63 + 3 = 66 := ⟨by decide +kernel, by decide, rfl⟩
theorem dc_M_seeks_66 : decode prog_9_method_44_code 66 = .ok (.iconst (-1), 1) ∧ 66 + 1 = 67 := ⟨by decide +kernel, rfl⟩
theorem dc_M_seeks_67 : decode prog_9_method_44_code 67 = .ok (.goto 4, 3) ∧ ((67 : Nat) : Int) + (4) = ((71 : Nat) : Int) := ⟨by decide +kernel, by decide⟩
theorem dc_M_seeks_70 : decode prog_9_method_44_code 70 = .ok (.iconst 1, 1) ∧ 70 + 1 = 71 := ⟨by decide +kernel, rfl⟩
theorem dc_M_seeks_71 : decode prog_9_method_44_code 71 = .ok (.invokevirtual 132, 3) ∧ 71 + 3 = 74 := ⟨by decide +kernel, rfl⟩
theorem dc_M_seeks_74 : decode prog_9_method_44_code 74 = .ok (.iinc 4 (-1), 3) ∧ 74 + 3 = 77 := ⟨by decide +kernel, rfl⟩
theorem dc_M_seeks_77 : decode prog_9_method_44_code 77 = .ok (.goto (-56), 3) ∧ ((77 : Nat) : Int) + (-56) = ((21 : Nat) : Int) := ⟨by decide +kernel, by decide⟩
theorem dc_M_seeks_80 : decode prog_9_method_44_code 80 = .ok (.iload 4, 2) ∧ 80 + 2 = 82 := ⟨by decide +kernel, rfl⟩
theorem dc_M_seeks_82 : decode prog_9_method_44_code 82 = .ok (.ifCond .le 51, 3) ∧ ((82 : Nat) : Int) + (51) = ((133 : Nat) : Int) ∧ 82 + 3 = 85 := ⟨by decide +kernel, by decide, rfl⟩
theorem dc_M_seeks_85 : decode prog_9_method_44_code 85 = .ok (.iload_n 1, 1) ∧ 85 + 1 = 86 := ⟨by decide +kernel, rfl⟩
theorem dc_M_seeks_86 : decode prog_9_method_44_code 86 = .ok (.ifCond .ne 17, 3) ∧ ((86 : Nat) : Int) + (17) = ((103 : Nat) : Int) ∧ 86 + 3 = 89 := ⟨by decide +kernel, by decide, rfl⟩
theorem dc_M_seeks_89 : decode prog_9_method_44_code 89 = .ok (.aload_n 0, 1) ∧ 89 + 1 = 90 := ⟨by decide +kernel, rfl⟩
theorem dc_M_seeks_90 : decode prog_9_method_44_code 90 = .ok (.getfield 7, 3) ∧ 90 + 3 = 93 := ⟨by decide +kernel, rfl⟩
theorem dc_M_seeks_93 : decode prog_9_method_44_code 93 = .ok (.bipush 8, 2) ∧ 93 + 2 = 95 := ⟨by decide +kernel, rfl⟩
theorem dc_M_seeks_95 : decode prog_9_method_44_code 95 = .ok (.iaload, 1) ∧ 95 + 1 = 96 := ⟨by decide +kernel, rfl⟩
theorem dc_M_seeks_96 : decode prog_9_method_44_code 96 = .ok (.iload_n 2, 1) ∧ 96 + 1 = 97 := ⟨by decide +kernel, rfl⟩
theorem dc_M_seeks_97 : decode prog_9_method_44_code 97 = .ok (.if_icmp .ge 36, 3) ∧ ((97 : Nat) : Int) + (36) = ((133 : Nat) : Int) ∧ 97 + 3 = 100 := ⟨by decide +kernel, by decide, rfl⟩
theorem dc_M_seeks_100 : decode prog_9_method_44_code 100 = .ok (.goto 14, 3) ∧ ((100 : Nat) : Int) + (14) = ((114 : Nat) : Int) := ⟨by decide +kernel, by decide⟩
theorem dc_M_seeks_103 : decode prog_9_method_44_code 103 = .ok (.aload_n 0, 1) ∧ 103 + 1 = 104 := ⟨by decide +kernel, rfl⟩
theorem dc_M_seeks_104 : decode prog_9_method_44_code 104 = .ok (.getfield 7, 3) ∧ 104 + 3 = 107 := ⟨by decide +kernel, rfl⟩
theorem dc_M_seeks_107 : decode prog_9_method_44_code 107 = .ok (.bipush 8, 2) ∧ 107 + 2 = 109 := ⟨by decide +kernel, rfl⟩
theorem dc_M_seeks_109 : decode prog_9_method_44_code 109 = .ok (.iaload, 1) ∧ 109 + 1 = 110 := ⟨by decide +kernel, rfl⟩
theorem dc_M_seeks_110 : decode prog_9_method_44_code 110 = .ok (.iload_n 3, 1) ∧ 110 + 1 = 111 := ⟨by decide +kernel, rfl⟩
theorem dc_M_seeks_111 : decode prog_9_method_44_code 111 = .ok (.if_icmp .le 22, 3) ∧ ((111 : Nat) : Int) + (22) = ((133 : Nat) : Int) ∧ 111 + 3 = 114 := ⟨by decide +kernel, by decide, rfl⟩
theorem dc_M_seeks_114 : decode prog_9_method_44_code 114 = .ok (.aload_n 0, 1) ∧ 114 + 1 = 115 := ⟨by decide +kernel, rfl⟩
theorem dc_M_seeks_115 : decode prog_9_method_44_code 115 = .ok (.iload_n 1, 1) ∧ 115 + 1 = 116 := ⟨by decide +kernel, rfl⟩
theorem dc_M_seeks_116 : decode prog_9_method_44_code 116 = .ok (.ifCond .ne 7, 3) ∧ ((116 : Nat) : Int) + (7) = ((123 : Nat) : Int) ∧ 116 + 3 = 119 := ⟨by decide +kernel, by decide, rfl⟩
theorem dc_M_seeks_119 : decode prog_9_method_44_code 119 = .ok (.iconst 1, 1) ∧ 119 + 1 = 120 := ⟨by decide +kernel, rfl⟩
theorem dc_M_seeks_120 : decode prog_9_method_44_code 120 = .ok (.goto 4, 3) ∧ ((120 : Nat) : Int) + (4) = ((124 : Nat) : Int) := ⟨by decide +kernel, by decide⟩
theorem dc_M_seeks_123 : decode prog_9_method_44_code 123 = .ok (.iconst (-1), 1) ∧ 123 + 1 = 124 := ⟨by decide +kernel, rfl⟩
theorem dc_M_seeks_124 : decode prog_9_method_44_code 124 = .ok (.invokevirtual 132, 3) ∧ 124 + 3 = 127 := ⟨by decide +kernel, rfl⟩
theorem dc_M_seeks_127 : decode prog_9_method_44_code 127 = .ok (.iinc 4 (-1), 3) ∧ 127 + 3 = 130 := ⟨by decide +kernel, rfl⟩
theorem dc_M_seeks_130 : decode prog_9_method_44_code 130 = .ok (.goto (-50), 3) ∧ ((130 : Nat) : Int) + (-50) = ((80 : Nat) : Int) := ⟨by decide +kernel, by decide⟩
theorem dc_M_seeks_133 : decode prog_9_method_44_code 133 = .ok (.iload 4, 2) ∧ 133 + 2 = 135 := ⟨by decide +kernel, rfl⟩
theorem dc_M_seeks_135 : decode prog_9_method_44_code 135 = .ok (.ifCond .le 7, 3) ∧ ((135 : Nat) : Int) + (7) = ((142 : Nat) : Int) ∧ 135 + 3 = 138 := ⟨by decide +kernel, by decide, rfl⟩
theorem dc_M_seeks_138 : decode prog_9_method_44_code 138 = .ok (.iconst 1, 1) ∧ 138 + 1 = 139 := ⟨by decide +kernel, rfl⟩
theorem dc_M_seeks_139 : decode prog_9_method_44_code 139 = .ok (.goto 4, 3) ∧ ((139 : Nat) : Int) + (4) = ((143 : Nat) : Int) := ⟨by decide +kernel, by decide⟩
theorem dc_M_seeks_142 : decode prog_9_method_44_code 142 = .ok (.iconst 0, 1) ∧ 142 + 1 = 143 := ⟨by decide +kernel, rfl⟩
theorem dc_M_seeks_143 : decode prog_9_method_44_code 143 = .ok (.ireturn, 1) := by decide +kernel
theorem dc_M_due_0 : decode prog_9_method_45_code 0 = .ok (.iload_n 1, 1) ∧ 0 + 1 = 1 := ⟨by decide +kernel, rfl⟩
theorem dc_M_due_1 : decode prog_9_method_45_code 1 = .ok (.ifCond .ne 20, 3) ∧ ((1 : Nat) : Int) + (20) = ((21 : Nat) : Int) ∧ 1 + 3 = 4 := ⟨by decide +kernel, by decide, rfl⟩
theorem dc_M_due_4 : decode prog_9_method_45_code 4 = .ok (.aload_n 0, 1) ∧ 4 + 1 = 5 := ⟨by decide +kernel, rfl⟩
theorem dc_M_due_5 : decode prog_9_method_45_code 5 = .ok (.getfield 7, 3) ∧ 5 + 3 = 8 := ⟨by decide +kernel, rfl⟩
theorem dc_M_due_8 : decode prog_9_method_45_code 8 = .ok (.bipush 19, 2) ∧ 8 + 2 = 10 := ⟨by decide +kernel, rfl⟩
theorem dc_M_due_10 : decode prog_9_method_45_code 10 = .ok (.iaload, 1) ∧ 10 + 1 = 11 := ⟨by decide +kernel, rfl⟩
theorem dc_M_due_11 : decode prog_9_method_45_code 11 = .ok (.aload_n 0, 1) ∧ 11 + 1 = 12 := ⟨by decide +kernel, rfl⟩
theorem dc_M_due_12 : decode prog_9_method_45_code 12 = .ok (.getfield 7, 3) ∧ 12 + 3 = 15 := ⟨by decide +kernel, rfl⟩
theorem dc_M_due_15 : decode prog_9_method_45_code 15 = .ok (.iconst 5, 1) ∧ 15 + 1 = 16 := ⟨by decide +kernel, rfl⟩
theorem dc_M_due_16 : decode prog_9_method_45_code 16 = .ok (.iaload, 1) ∧ 16 + 1 = 17 := ⟨by decide +kernel, rfl⟩
theorem dc_M_due_17 : decode prog_9_method_45_code 17 = .ok (.iadd, 1) ∧ 17 + 1 = 18 := ⟨by decide +kernel, rfl⟩
theorem dc_M_due_18 : decode prog_9_method_45_code 18 = .ok (.goto 10, 3) ∧ ((18 : Nat) : Int) + (10) = ((28 : Nat) : Int) := ⟨by decide +kernel, by decide⟩
theorem dc_M_due_21 : decode prog_9_method_45_code 21 = .ok (.aload_n 0, 1) ∧ 21 + 1 = 22 := ⟨by decide +kernel, rfl⟩
theorem dc_M_due_22 : decode prog_9_method_45_code 22 = .ok (.getfield 7, 3) ∧ 22 + 3 = 25 := ⟨by decide +kernel, rfl⟩
theorem dc_M_due_25 : decode prog_9_method_45_code 25 = .ok (.bipush 20, 2) ∧ 25 + 2 = 27 := ⟨by decide +kernel, rfl⟩
theorem dc_M_due_27 : decode prog_9_method_45_code 27 = .ok (.iaload, 1) ∧ 27 + 1 = 28 := ⟨by decide +kernel, rfl⟩
theorem dc_M_due_28 : decode prog_9_method_45_code 28 = .ok (.ireturn, 1) := by decide +kernel
theorem dc_M_check_0 : decode prog_9_method_48_code 0 = .ok (.aload_n 0, 1) ∧ 0 + 1 = 1 := ⟨by decide +kernel, rfl⟩
theorem dc_M_check_1 : decode prog_9_method_48_code 1 = .ok (.iload_n 1, 1) ∧ 1 + 1 = 2 := ⟨by decide +kernel, rfl⟩
theorem dc_M_check_2 : decode prog_9_method_48_code 2 = .ok (.invokevirtual 146, 3) ∧ 2 + 3 = 5 := ⟨by decide +kernel, rfl⟩
theorem dc_M_check_5 : decode prog_9_method_48_code 5 = .ok (.istore_n 2, 1) ∧ 5 + 1 = 6 := ⟨by decide +kernel, rfl⟩
theorem dc_M_check_6 : decode prog_9_method_48_code 6 = .ok (.iload_n 2, 1) ∧ 6 + 1 = 7 := ⟨by decide +kernel, rfl⟩
theorem dc_M_check_7 : decode prog_9_method_48_code 7 = .ok (.ifCond .eq 7, 3) ∧ ((7 : Nat) : Int) + (7) = ((14 : Nat) : Int) ∧ 7 + 3 = 10 := ⟨by decide +kernel, by decide, rfl⟩
theorem dc_M_check_10 : decode prog_9_method_48_code 10 = .ok (.iload_n 2, 1) ∧ 10 + 1 = 11 := ⟨by decide +kernel, rfl⟩
theorem dc_M_check_11 : decode prog_9_method_48_code 11 = .ok (.goto 16, 3) ∧ ((11 : Nat) : Int) + (16) = ((27 : Nat) : Int) := ⟨by decide +kernel, by decide⟩
theorem dc_M_check_14 : decode prog_9_method_48_code 14 = .ok (.aload_n 0, 1) ∧ 14 + 1 = 15 := ⟨by decide +kernel, rfl⟩
theorem dc_M_check_15 : decode prog_9_method_48_code 15 = .ok (.getfield 7, 3) ∧ 15 + 3 = 18 := ⟨by decide +kernel, rfl⟩
theorem dc_M_check_18 : decode prog_9_method_48_code 18 = .ok (.bipush 6, 2) ∧ 18 + 2 = 20 := ⟨by decide +kernel, rfl⟩
theorem dc_M_check_20 : decode prog_9_method_48_code 20 = .ok (.iaload, 1) ∧ 20 + 1 = 21 := ⟨by decide +kernel, rfl⟩
theorem dc_M_check_21 : decode prog_9_method_48_code 21 = .ok (.aload_n 0, 1) ∧ 21 + 1 = 22 := ⟨by decide +kernel, rfl⟩
theorem dc_M_check_22 : decode prog_9_method_48_code 22 = .ok (.iload_n 1, 1) ∧ 22 + 1 = 23 := ⟨by decide +kernel, rfl⟩
theorem dc_M_check_23 : decode prog_9_method_48_code 23 = .ok (.invokevirtual 149, 3) ∧ 23 + 3 = 26 := ⟨by decide +kernel, rfl⟩
theorem dc_M_check_26 : decode prog_9_method_48_code 26 = .ok (.isub, 1) ∧ 26 + 1 = 27 := ⟨by decide +kernel, rfl⟩
theorem dc_M_check_27 : decode prog_9_method_48_code 27 = .ok (.ireturn, 1) := by decide +kernel
theorem dc_M_correct_0 : decode prog_9_method_49_code 0 = .ok (.iload_n 1, 1) ∧ 0 + 1 = 1 := ⟨by decide +kernel, rfl⟩
theorem dc_M_correct_1 : decode prog_9_method_49_code 1 = .ok (.sipush (-9999), 3) ∧ 1 + 3 = 4 := ⟨by decide +kernel, rfl⟩
theorem dc_M_correct_4 : decode prog_9_method_49_code 4 = .ok (.sipush 9999, 3) ∧ 4 + 3 = 7 := ⟨by decide +kernel, rfl⟩
theorem dc_M_correct_7 : decode prog_9_method_49_code 7 = .ok (.invokestatic 31, 3) ∧ 7 + 3 = 10 := ⟨by decide +kernel, rfl⟩
theorem dc_M_correct_10 : decode prog_9_method_49_code 10 = .ok (.ifCond .ne 6, 3) ∧ ((10 : Nat) : Int) + (6) = ((16 : Nat) : Int) ∧ 10 + 3 = 13 := ⟨by decide +kernel, by decide, rfl⟩
theorem dc_M_correct_13 : decode prog_9_method_49_code 13 = .ok (.ldc 64, 2) ∧ 13 + 2 = 15 := ⟨by decide +kernel, rfl⟩
theorem dc_M_correct_15 : decode prog_9_method_49_code 15 = .ok (.ireturn, 1) := by decide +kernel
theorem dc_M_correct_16 : decode prog_9_method_49_code 16 = .ok (.aload_n 0, 1) ∧ 16 + 1 = 17 := ⟨by decide +kernel, rfl⟩
theorem dc_M_correct_17 : decode prog_9_method_49_code 17 = .ok (.getfield 7, 3) ∧ 17 + 3 = 20 := ⟨by decide +kernel, rfl⟩
theorem dc_M_correct_20 : decode prog_9_method_49_code 20 = .ok (.bipush 6, 2) ∧ 20 + 2 = 22 := ⟨by decide +kernel, rfl⟩
theorem dc_M_correct_22 : decode prog_9_method_49_code 22 = .ok (.iaload, 1) ∧ 22 + 1 = 23 := ⟨by decide +kernel, rfl⟩
theorem dc_M_correct_23 : decode prog_9_method_49_code 23 = .ok (.iload_n 1, 1) ∧ 23 + 1 = 24 := ⟨by decide +kernel, rfl⟩
theorem dc_M_correct_24 : decode prog_9_method_49_code 24 = .ok (.isub, 1) ∧ 24 + 1 = 25 := ⟨by decide +kernel, rfl⟩
theorem dc_M_correct_25 : decode prog_9_method_49_code 25 = .ok (.ldc 152, 2) ∧ 25 + 2 = 27 := ⟨by decide +kernel, rfl⟩
theorem dc_M_correct_27 : decode prog_9_method_49_code 27 = .ok (.ldc 153, 2) ∧ 27 + 2 = 29 := ⟨by decide +kernel, rfl⟩
theorem dc_M_correct_29 : decode prog_9_method_49_code 29 = .ok (.invokestatic 31, 3) ∧ 29 + 3 = 32 := ⟨by decide +kernel, rfl⟩
theorem dc_M_correct_32 : decode prog_9_method_49_code 32 = .ok (.ifCond .ne 6, 3) ∧ ((32 : Nat) : Int) + (6) = ((38 : Nat) : Int) ∧ 32 + 3 = 35 := ⟨by decide +kernel, by decide, rfl⟩
theorem dc_M_correct_35 : decode prog_9_method_49_code 35 = .ok (.ldc 30, 2) ∧ 35 + 2 = 37 := ⟨by decide +kernel, rfl⟩
theorem dc_M_correct_37 : decode prog_9_method_49_code 37 = .ok (.ireturn, 1) := by decide +kernel
theorem dc_M_correct_38 : decode prog_9_method_49_code 38 = .ok (.aload_n 0, 1) ∧ 38 + 1 = 39 := ⟨by decide +kernel, rfl⟩
theorem dc_M_correct_39 : decode prog_9_method_49_code 39 = .ok (.invokevirtual 47, 3) ∧ 39 + 3 = 42 := ⟨by decide +kernel, rfl⟩
theorem dc_M_correct_42 : decode prog_9_method_49_code 42 = .ok (.aload_n 0, 1) ∧ 42 + 1 = 43 := ⟨by decide +kernel, rfl⟩
theorem dc_M_correct_43 : decode prog_9_method_49_code 43 = .ok (.getfield 7, 3) ∧ 43 + 3 = 46 := ⟨by decide +kernel, rfl⟩
theorem dc_M_correct_46 : decode prog_9_method_49_code 46 = .ok (.bipush 6, 2) ∧ 46 + 2 = 48 := ⟨by decide +kernel, rfl⟩
theorem dc_M_correct_48 : decode prog_9_method_49_code 48 = .ok (.dup2, 1) ∧ 48 + 1 = 49 := ⟨by decide +kernel, rfl⟩
theorem dc_M_correct_49 : decode prog_9_method_49_code 49 = .ok (.iaload, 1) ∧ 49 + 1 = 50 := ⟨by decide +kernel, rfl⟩
theorem dc_M_correct_50 : decode prog_9_method_49_code 50 = .ok (.iload_n 1, 1) ∧ 50 + 1 = 51 := ⟨by decide +kernel, rfl⟩
theorem dc_M_correct_51 : decode prog_9_method_49_code 51 = .ok (.isub, 1) ∧ 51 + 1 = 52 := ⟨by decide +kernel, rfl⟩
theorem dc_M_correct_52 : decode prog_9_method_49_code 52 = .ok (.iastore, 1) ∧ 52 + 1 = 53 := ⟨by decide +kernel, rfl⟩
theorem dc_M_correct_53 : decode prog_9_method_49_code 53 = .ok (.aload_n 0, 1) ∧ 53 + 1 = 54 := ⟨by decide +kernel, rfl⟩
theorem dc_M_correct_54 : decode prog_9_method_49_code 54 = .ok (.getfield 7, 3) ∧ 54 + 3 = 57 := ⟨by decide +kernel, rfl⟩
theorem dc_M_correct_57 : decode prog_9_method_49_code 57 = .ok (.bipush 11, 2) ∧ 57 + 2 = 59 := ⟨by decide +kernel, rfl⟩
theorem dc_M_correct_59 : decode prog_9_method_49_code 59 = .ok (.dup2, 1) ∧ 59 + 1 = 60 := ⟨by decide +kernel, rfl⟩
theorem dc_M_correct_60 : decode prog_9_method_49_code 60 = .ok (.iaload, 1) ∧ 60 + 1 = 61 := ⟨by decide +kernel, rfl⟩
theorem dc_M_correct_61 : decode prog_9_method_49_code 61 = .ok (.iload_n 1, 1) ∧ 61 + 1 = 62 := ⟨by decide +kernel, rfl⟩
theorem dc_M_correct_62 : decode prog_9_method_49_code 62 = .ok (.isub, 1) ∧ 62 + 1 = 63 := ⟨by decide +kernel, rfl⟩
theorem dc_M_correct_63 : decode prog_9_method_49_code 63 = .ok (.iastore, 1) ∧ 63 + 1 = 64 := ⟨by decide +kernel, rfl⟩
theorem dc_M_correct_64 : decode prog_9_method_49_code 64 = .ok (.aload_n 0, 1) ∧ 64 + 1 = 65 := ⟨by decide +kernel, rfl⟩
theorem dc_M_correct_65 : decode prog_9_method_49_code 65 = .ok (.getfield 7, 3) ∧ 65 + 3 = 68 := ⟨by decide +kernel, rfl⟩
theorem dc_M_correct_68 : decode prog_9_method_49_code 68 = .ok (.bipush 6, 2) ∧ 68 + 2 = 70 := ⟨by decide +kernel, rfl⟩
theorem dc_M_correct_70 : decode prog_9_method_49_code 70 = .ok (.iaload, 1) ∧ 70 + 1 = 71 := ⟨by decide +kernel, rfl⟩
theorem dc_M_correct_71 : decode prog_9_method_49_code 71 = .ok (.ireturn, 1) := by decide +kernel
theorem dc_M_keep_0 : decode prog_9_method_51_code 0 = .ok (.iload_n 1, 1) ∧ 0 + 1 = 1 := ⟨by decide +kernel, rfl⟩
theorem dc_M_keep_1 : decode prog_9_method_51_code 1 = .ok (.invokestatic 154, 3) ∧ 1 + 3 = 4 := ⟨by decide +kernel, rfl⟩
theorem dc_M_keep_4 : decode prog_9_method_51_code 4 = .ok (.ifCond .ne 6, 3) ∧ ((4 : Nat) : Int) + (6) = ((10 : Nat) : Int) ∧ 4 + 3 = 7 := ⟨by decide +kernel, by decide, rfl⟩
theorem dc_M_keep_7 : decode prog_9_method_51_code 7 = .ok (.ldc 64, 2) ∧ 7 + 2 = 9 := ⟨by decide +kernel, rfl⟩
theorem dc_M_keep_9 : decode prog_9_method_51_code 9 = .ok (.ireturn, 1) := by decide +kernel
theorem dc_M_keep_10 : decode prog_9_method_51_code 10 = .ok (.iconst 0, 1) ∧ 10 + 1 = 11 := ⟨by decide +kernel, rfl⟩
theorem dc_M_keep_11 : decode prog_9_method_51_code 11 = .ok (.istore_n 2, 1) ∧ 11 + 1 = 12 := ⟨by decide +kernel, rfl⟩
theorem dc_M_keep_12 : decode prog_9_method_51_code 12 = .ok (.iload_n 2, 1) ∧ 12 + 1 = 13 := ⟨by decide +kernel, rfl⟩
theorem dc_M_keep_13 : decode prog_9_method_51_code 13 = .ok (.bipush 80, 2) ∧ 13 + 2 = 15 := ⟨by decide +kernel, rfl⟩
theorem dc_M_keep_15 : decode prog_9_method_51_code 15 = .ok (.if_icmp .ge 26, 3) ∧ ((15 : Nat) : Int) + (26) = ((41 : Nat) : Int) ∧ 15 + 3 = 18 := ⟨by decide +kernel, by decide, rfl⟩
theorem dc_M_keep_18 : decode prog_9_method_51_code 18 = .ok (.aload_n 0, 1) ∧ 18 + 1 = 19 := ⟨by decide +kernel, rfl⟩
theorem dc_M_keep_19 : decode prog_9_method_51_code 19 = .ok (.getfield 16, 3) ∧ 19 + 3 = 22 := ⟨by decide +kernel, rfl⟩
theorem dc_M_keep_22 : decode prog_9_method_51_code 22 = .ok (.bipush 80, 2) ∧ 22 + 2 = 24 := ⟨by decide +kernel, rfl⟩
theorem dc_M_keep_24 : decode prog_9_method_51_code 24 = .ok (.iload_n 1, 1) ∧ 24 + 1 = 25 := ⟨by decide +kernel, rfl⟩
theorem dc_M_keep_25 : decode prog_9_method_51_code 25 = .ok (.imul, 1) ∧ 25 + 1 = 26 := ⟨by decide +kernel, rfl⟩
theorem dc_M_keep_26 : decode prog_9_method_51_code 26 = .ok (.iload_n 2, 1) ∧ 26 + 1 = 27 := ⟨by decide +kernel, rfl⟩
theorem dc_M_keep_27 : decode prog_9_method_51_code 27 = .ok (.iadd, 1) ∧ 27 + 1 = 28 := ⟨by decide +kernel, rfl⟩
theorem dc_M_keep_28 : decode prog_9_method_51_code 28 = .ok (.aload_n 0, 1) ∧ 28 + 1 = 29 := ⟨by decide +kernel, rfl⟩
theorem dc_M_keep_29 : decode prog_9_method_51_code 29 = .ok (.getfield 7, 3) ∧ 29 + 3 = 32 := ⟨by decide +kernel, rfl⟩
theorem dc_M_keep_32 : decode prog_9_method_51_code 32 = .ok (.iload_n 2, 1) ∧ 32 + 1 = 33 := ⟨by decide +kernel, rfl⟩
theorem dc_M_keep_33 : decode prog_9_method_51_code 33 = .ok (.iaload, 1) ∧ 33 + 1 = 34 := ⟨by decide +kernel, rfl⟩
theorem dc_M_keep_34 : decode prog_9_method_51_code 34 = .ok (.iastore, 1) ∧ 34 + 1 = 35 := ⟨by decide +kernel, rfl⟩
theorem dc_M_keep_35 : decode prog_9_method_51_code 35 = .ok (.iinc 2 1, 3) ∧ 35 + 3 = 38 := ⟨by decide +kernel, rfl⟩
theorem dc_M_keep_38 : decode prog_9_method_51_code 38 = .ok (.goto (-26), 3) ∧ ((38 : Nat) : Int) + (-26) = ((12 : Nat) : Int) := ⟨by decide +kernel, by decide⟩
theorem dc_M_keep_41 : decode prog_9_method_51_code 41 = .ok (.aload_n 0, 1) ∧ 41 + 1 = 42 := ⟨by decide +kernel, rfl⟩
theorem dc_M_keep_42 : decode prog_9_method_51_code 42 = .ok (.dup, 1) ∧ 42 + 1 = 43 := ⟨by decide +kernel, rfl⟩
theorem dc_M_keep_43 : decode prog_9_method_51_code 43 = .ok (.getfield 157, 3) ∧ 43 + 3 = 46 := ⟨by decide +kernel, rfl⟩
theorem dc_M_keep_46 : decode prog_9_method_51_code 46 = .ok (.iconst 1, 1) ∧ 46 + 1 = 47 := ⟨by decide +kernel, rfl⟩
theorem dc_M_keep_47 : decode prog_9_method_51_code 47 = .ok (.iload_n 1, 1) ∧ 47 + 1 = 48 := ⟨by decide +kernel, rfl⟩
theorem dc_M_keep_48 : decode prog_9_method_51_code 48 = .ok (.ishl, 1) ∧ 48 + 1 = 49 := ⟨by decide +kernel, rfl⟩
theorem dc_M_keep_49 : decode prog_9_method_51_code 49 = .ok (.ior, 1) ∧ 49 + 1 = 50 := ⟨by decide +kernel, rfl⟩
theorem dc_M_keep_50 : decode prog_9_method_51_code 50 = .ok (.putfield 157, 3) ∧ 50 + 3 = 53 := ⟨by decide +kernel, rfl⟩
theorem dc_M_keep_53 : decode prog_9_method_51_code 53 = .ok (.aload_n 0, 1) ∧ 53 + 1 = 54 := ⟨by decide +kernel, rfl⟩
theorem dc_M_keep_54 : decode prog_9_method_51_code 54 = .ok (.getfield 7, 3) ∧ 54 + 3 = 57 := ⟨by decide +kernel, rfl⟩
theorem dc_M_keep_57 : decode prog_9_method_51_code 57 = .ok (.bipush 6, 2) ∧ 57 + 2 = 59 := ⟨by decide +kernel, rfl⟩
theorem dc_M_keep_59 : decode prog_9_method_51_code 59 = .ok (.iaload, 1) ∧ 59 + 1 = 60 := ⟨by decide +kernel, rfl⟩
theorem dc_M_keep_60 : decode prog_9_method_51_code 60 = .ok (.ireturn, 1) := by decide +kernel
theorem dc_M_isImage_0 : decode prog_9_method_50_code 0 = .ok (.iload_n 0, 1) ∧ 0 + 1 = 1 := ⟨by decide +kernel, rfl⟩
theorem dc_M_isImage_1 : decode prog_9_method_50_code 1 = .ok (.iconst 0, 1) ∧ 1 + 1 = 2 := ⟨by decide +kernel, rfl⟩
theorem dc_M_isImage_2 : decode prog_9_method_50_code 2 = .ok (.iconst 1, 1) ∧ 2 + 1 = 3 := ⟨by decide +kernel, rfl⟩
theorem dc_M_isImage_3 : decode prog_9_method_50_code 3 = .ok (.invokestatic 31, 3) ∧ 3 + 3 = 6 := ⟨by decide +kernel, rfl⟩
theorem dc_M_isImage_6 : decode prog_9_method_50_code 6 = .ok (.ireturn, 1) := by decide +kernel
theorem dc_M_back_0 : decode prog_9_method_52_code 0 = .ok (.iload_n 1, 1) ∧ 0 + 1 = 1 := ⟨by decide +kernel, rfl⟩
theorem dc_M_back_1 : decode prog_9_method_52_code 1 = .ok (.invokestatic 154, 3) ∧ 1 + 3 = 4 := ⟨by decide +kernel, rfl⟩
theorem dc_M_back_4 : decode prog_9_method_52_code 4 = .ok (.ifCond .ne 6, 3) ∧ ((4 : Nat) : Int) + (6) = ((10 : Nat) : Int) ∧ 4 + 3 = 7 := ⟨by decide +kernel, by decide, rfl⟩
theorem dc_M_back_7 : decode prog_9_method_52_code 7 = .ok (.ldc 64, 2) ∧ 7 + 2 = 9 := ⟨by decide +kernel, rfl⟩
theorem dc_M_back_9 : decode prog_9_method_52_code 9 = .ok (.ireturn, 1) := by decide +kernel
theorem dc_M_back_10 : decode prog_9_method_52_code 10 = .ok (.aload_n 0, 1) ∧ 10 + 1 = 11 := ⟨by decide +kernel, rfl⟩
theorem dc_M_back_11 : decode prog_9_method_52_code 11 = .ok (.getfield 157, 3) ∧ 11 + 3 = 14 := ⟨by decide +kernel, rfl⟩
theorem dc_M_back_14 : decode prog_9_method_52_code 14 = .ok (.iload_n 1, 1) ∧ 14 + 1 = 15 := ⟨by decide +kernel, rfl⟩
theorem dc_M_back_15 : decode prog_9_method_52_code 15 = .ok (.ishr, 1) ∧ 15 + 1 = 16 := ⟨by decide +kernel, rfl⟩
theorem dc_M_back_16 : decode prog_9_method_52_code 16 = .ok (.iconst 1, 1) ∧ 16 + 1 = 17 := ⟨by decide +kernel, rfl⟩
theorem dc_M_back_17 : decode prog_9_method_52_code 17 = .ok (.iand, 1) ∧ 17 + 1 = 18 := ⟨by decide +kernel, rfl⟩
theorem dc_M_back_18 : decode prog_9_method_52_code 18 = .ok (.ifCond .ne 6, 3) ∧ ((18 : Nat) : Int) + (6) = ((24 : Nat) : Int) ∧ 18 + 3 = 21 := ⟨by decide +kernel, by decide, rfl⟩
theorem dc_M_back_21 : decode prog_9_method_52_code 21 = .ok (.ldc 30, 2) ∧ 21 + 2 = 23 := ⟨by decide +kernel, rfl⟩
theorem dc_M_back_23 : decode prog_9_method_52_code 23 = .ok (.ireturn, 1) := by decide +kernel
theorem dc_M_back_24 : decode prog_9_method_52_code 24 = .ok (.aload_n 0, 1) ∧ 24 + 1 = 25 := ⟨by decide +kernel, rfl⟩
theorem dc_M_back_25 : decode prog_9_method_52_code 25 = .ok (.invokevirtual 47, 3) ∧ 25 + 3 = 28 := ⟨by decide +kernel, rfl⟩
theorem dc_M_back_28 : decode prog_9_method_52_code 28 = .ok (.iconst 0, 1) ∧ 28 + 1 = 29 := ⟨by decide +kernel, rfl⟩
theorem dc_M_back_29 : decode prog_9_method_52_code 29 = .ok (.istore_n 2, 1) ∧ 29 + 1 = 30 := ⟨by decide +kernel, rfl⟩
theorem dc_M_back_30 : decode prog_9_method_52_code 30 = .ok (.iload_n 2, 1) ∧ 30 + 1 = 31 := ⟨by decide +kernel, rfl⟩
theorem dc_M_back_31 : decode prog_9_method_52_code 31 = .ok (.bipush 80, 2) ∧ 31 + 2 = 33 := ⟨by decide +kernel, rfl⟩
theorem dc_M_back_33 : decode prog_9_method_52_code 33 = .ok (.if_icmp .ge 26, 3) ∧ ((33 : Nat) : Int) + (26) = ((59 : Nat) : Int) ∧ 33 + 3 = 36 := ⟨by decide +kernel, by decide, rfl⟩
theorem dc_M_back_36 : decode prog_9_method_52_code 36 = .ok (.aload_n 0, 1) ∧ 36 + 1 = 37 := ⟨by decide +kernel, rfl⟩
theorem dc_M_back_37 : decode prog_9_method_52_code 37 = .ok (.getfield 7, 3) ∧ 37 + 3 = 40 := ⟨by decide +kernel, rfl⟩
theorem dc_M_back_40 : decode prog_9_method_52_code 40 = .ok (.iload_n 2, 1) ∧ 40 + 1 = 41 := ⟨by decide +kernel, rfl⟩
theorem dc_M_back_41 : decode prog_9_method_52_code 41 = .ok (.aload_n 0, 1) ∧ 41 + 1 = 42 := ⟨by decide +kernel, rfl⟩
theorem dc_M_back_42 : decode prog_9_method_52_code 42 = .ok (.getfield 16, 3) ∧ 42 + 3 = 45 := ⟨by decide +kernel, rfl⟩
theorem dc_M_back_45 : decode prog_9_method_52_code 45 = .ok (.bipush 80, 2) ∧ 45 + 2 = 47 := ⟨by decide +kernel, rfl⟩
theorem dc_M_back_47 : decode prog_9_method_52_code 47 = .ok (.iload_n 1, 1) ∧ 47 + 1 = 48 := ⟨by decide +kernel, rfl⟩
theorem dc_M_back_48 : decode prog_9_method_52_code 48 = .ok (.imul, 1) ∧ 48 + 1 = 49 := ⟨by decide +kernel, rfl⟩
theorem dc_M_back_49 : decode prog_9_method_52_code 49 = .ok (.iload_n 2, 1) ∧ 49 + 1 = 50 := ⟨by decide +kernel, rfl⟩
theorem dc_M_back_50 : decode prog_9_method_52_code 50 = .ok (.iadd, 1) ∧ 50 + 1 = 51 := ⟨by decide +kernel, rfl⟩
theorem dc_M_back_51 : decode prog_9_method_52_code 51 = .ok (.iaload, 1) ∧ 51 + 1 = 52 := ⟨by decide +kernel, rfl⟩
theorem dc_M_back_52 : decode prog_9_method_52_code 52 = .ok (.iastore, 1) ∧ 52 + 1 = 53 := ⟨by decide +kernel, rfl⟩
theorem dc_M_back_53 : decode prog_9_method_52_code 53 = .ok (.iinc 2 1, 3) ∧ 53 + 3 = 56 := ⟨by decide +kernel, rfl⟩
theorem dc_M_back_56 : decode prog_9_method_52_code 56 = .ok (.goto (-26), 3) ∧ ((56 : Nat) : Int) + (-26) = ((30 : Nat) : Int) := ⟨by decide +kernel, by decide⟩
theorem dc_M_back_59 : decode prog_9_method_52_code 59 = .ok (.aload_n 0, 1) ∧ 59 + 1 = 60 := ⟨by decide +kernel, rfl⟩
theorem dc_M_back_60 : decode prog_9_method_52_code 60 = .ok (.getfield 7, 3) ∧ 60 + 3 = 63 := ⟨by decide +kernel, rfl⟩
theorem dc_M_back_63 : decode prog_9_method_52_code 63 = .ok (.bipush 6, 2) ∧ 63 + 2 = 65 := ⟨by decide +kernel, rfl⟩
theorem dc_M_back_65 : decode prog_9_method_52_code 65 = .ok (.iaload, 1) ∧ 65 + 1 = 66 := ⟨by decide +kernel, rfl⟩
theorem dc_M_back_66 : decode prog_9_method_52_code 66 = .ok (.ireturn, 1) := by decide +kernel
theorem dc_M_count_0 : decode prog_9_method_53_code 0 = .ok (.iload_n 1, 1) ∧ 0 + 1 = 1 := ⟨by decide +kernel, rfl⟩
theorem dc_M_count_1 : decode prog_9_method_53_code 1 = .ok (.tableswitch 151 12 20 #[51, 56, 68, 112, 120, 128, 136, 141, 146], 51) ∧ ((1 : Nat) : Int) + (151) = ((152 : Nat) : Int) ∧ (20 : Int) + 1 - (12) = (([52, 57, 69, 113, 121, 129, 137, 142, 147] : List Nat).length : Int) ∧ (#[51, 56, 68, 112, 120, 128, 136, 141, 146] : Array Int).toList.map (fun o => ((1 : Nat) : Int) + o) = ([52, 57, 69, 113, 121, 129, 137, 142, 147] : List Nat).map (fun t : Nat => (t : Int)) := ⟨by decide +kernel, by decide, by decide, by decide⟩
theorem dc_M_count_52 : decode prog_9_method_53_code 52 = .ok (.aload_n 0, 1) ∧ 52 + 1 = 53 := ⟨by decide +kernel, rfl⟩
theorem dc_M_count_53 : decode prog_9_method_53_code 53 = .ok (.invokevirtual 113, 3) ∧ 53 + 3 = 56 := ⟨by decide +kernel, rfl⟩
theorem dc_M_count_56 : decode prog_9_method_53_code 56 = .ok (.ireturn, 1) := by decide +kernel
theorem dc_M_count_57 : decode prog_9_method_53_code 57 = .ok (.aload_n 0, 1) ∧ 57 + 1 = 58 := ⟨by decide +kernel, rfl⟩
theorem dc_M_count_58 : decode prog_9_method_53_code 58 = .ok (.aload_n 0, 1) ∧ 58 + 1 = 59 := ⟨by decide +kernel, rfl⟩
theorem dc_M_count_59 : decode prog_9_method_53_code 59 = .ok (.getfield 7, 3) ∧ 59 + 3 = 62 := ⟨by decide +kernel, rfl⟩
theorem dc_M_count_62 : decode prog_9_method_53_code 62 = .ok (.bipush 8, 2) ∧ 62 + 2 = 64 := ⟨by decide +kernel, rfl⟩
theorem dc_M_count_64 : decode prog_9_method_53_code 64 = .ok (.iaload, 1) ∧ 64 + 1 = 65 := ⟨by decide +kernel, rfl⟩
theorem dc_M_count_65 : decode prog_9_method_53_code 65 = .ok (.invokevirtual 116, 3) ∧ 65 + 3 = 68 := ⟨by decide +kernel, rfl⟩
theorem dc_M_count_68 : decode prog_9_method_53_code 68 = .ok (.ireturn, 1) := by decide +kernel
theorem dc_M_count_69 : decode prog_9_method_53_code 69 = .ok (.aload_n 0, 1) ∧ 69 + 1 = 70 := ⟨by decide +kernel, rfl⟩
theorem dc_M_count_70 : decode prog_9_method_53_code 70 = .ok (.getfield 7, 3) ∧ 70 + 3 = 73 := ⟨by decide +kernel, rfl⟩
theorem dc_M_count_73 : decode prog_9_method_53_code 73 = .ok (.bipush 18, 2) ∧ 73 + 2 = 75 := ⟨by decide +kernel, rfl⟩
theorem dc_M_count_75 : decode prog_9_method_53_code 75 = .ok (.iaload, 1) ∧ 75 + 1 = 76 := ⟨by decide +kernel, rfl⟩
theorem dc_M_count_76 : decode prog_9_method_53_code 76 = .ok (.iconst 1, 1) ∧ 76 + 1 = 77 := ⟨by decide +kernel, rfl⟩
theorem dc_M_count_77 : decode prog_9_method_53_code 77 = .ok (.if_icmp .ne 34, 3) ∧ ((77 : Nat) : Int) + (34) = ((111 : Nat) : Int) ∧ 77 + 3 = 80 := ⟨by decide +kernel, by decide, rfl⟩
theorem dc_M_count_80 : decode prog_9_method_53_code 80 = .ok (.aload_n 0, 1) ∧ 80 + 1 = 81 := ⟨by decide +kernel, rfl⟩
theorem dc_M_count_81 : decode prog_9_method_53_code 81 = .ok (.getfield 7, 3) ∧ 81 + 3 = 84 := ⟨by decide +kernel, rfl⟩
theorem dc_M_count_84 : decode prog_9_method_53_code 84 = .ok (.bipush 8, 2) ∧ 84 + 2 = 86 := ⟨by decide +kernel, rfl⟩
theorem dc_M_count_86 : decode prog_9_method_53_code 86 = .ok (.iaload, 1) ∧ 86 + 1 = 87 := ⟨by decide +kernel, rfl⟩
theorem dc_M_count_87 : decode prog_9_method_53_code 87 = .ok (.aload_n 0, 1) ∧ 87 + 1 = 88 := ⟨by decide +kernel, rfl⟩
theorem dc_M_count_88 : decode prog_9_method_53_code 88 = .ok (.getfield 7, 3) ∧ 88 + 3 = 91 := ⟨by decide +kernel, rfl⟩
theorem dc_M_count_91 : decode prog_9_method_53_code 91 = .ok (.bipush 19, 2) ∧ 91 + 2 = 93 := ⟨by decide +kernel, rfl⟩
theorem dc_M_count_93 : decode prog_9_method_53_code 93 = .ok (.iaload, 1) ∧ 93 + 1 = 94 := ⟨by decide +kernel, rfl⟩
theorem dc_M_count_94 : decode prog_9_method_53_code 94 = .ok (.aload_n 0, 1) ∧ 94 + 1 = 95 := ⟨by decide +kernel, rfl⟩
theorem dc_M_count_95 : decode prog_9_method_53_code 95 = .ok (.getfield 7, 3) ∧ 95 + 3 = 98 := ⟨by decide +kernel, rfl⟩
theorem dc_M_count_98 : decode prog_9_method_53_code 98 = .ok (.bipush 20, 2) ∧ 98 + 2 = 100 := ⟨by decide +kernel, rfl⟩
theorem dc_M_count_100 : decode prog_9_method_53_code 100 = .ok (.iaload, 1) ∧ 100 + 1 = 101 := ⟨by decide +kernel, rfl⟩
theorem dc_M_count_101 : decode prog_9_method_53_code 101 = .ok (.invokestatic 31, 3) ∧ 101 + 3 = 104 := ⟨by decide +kernel, rfl⟩
theorem dc_M_count_104 : decode prog_9_method_53_code 104 = .ok (.ifCond .eq 7, 3) ∧ ((104 : Nat) : Int) + (7) = ((111 : Nat) : Int) ∧ 104 + 3 = 107 := ⟨by decide +kernel, by decide, rfl⟩
theorem dc_M_count_107 : decode prog_9_method_53_code 107 = .ok (.iconst 1, 1) ∧ 107 + 1 = 108 := ⟨by decide +kernel, rfl⟩
theorem dc_M_count_108 : decode prog_9_method_53_code 108 = .ok (.goto 4, 3) ∧ ((108 : Nat) : Int) + (4) = ((112 : Nat) : Int) := ⟨by decide +kernel, by decide⟩
theorem dc_M_count_111 : decode prog_9_method_53_code 111 = .ok (.iconst 0, 1) ∧ 111 + 1 = 112 := ⟨by decide +kernel, rfl⟩
theorem dc_M_count_112 : decode prog_9_method_53_code 112 = .ok (.ireturn, 1) := by decide +kernel
theorem dc_M_count_113 : decode prog_9_method_53_code 113 = .ok (.aload_n 0, 1) ∧ 113 + 1 = 114 := ⟨by decide +kernel, rfl⟩
theorem dc_M_count_114 : decode prog_9_method_53_code 114 = .ok (.getfield 7, 3) ∧ 114 + 3 = 117 := ⟨by decide +kernel, rfl⟩
theorem dc_M_count_117 : decode prog_9_method_53_code 117 = .ok (.bipush 21, 2) ∧ 117 + 2 = 119 := ⟨by decide +kernel, rfl⟩
theorem dc_M_count_119 : decode prog_9_method_53_code 119 = .ok (.iaload, 1) ∧ 119 + 1 = 120 := ⟨by decide +kernel, rfl⟩
theorem dc_M_count_120 : decode prog_9_method_53_code 120 = .ok (.ireturn, 1) := by decide +kernel
theorem dc_M_count_121 : decode prog_9_method_53_code 121 = .ok (.aload_n 0, 1) ∧ 121 + 1 = 122 := ⟨by decide +kernel, rfl⟩
theorem dc_M_count_122 : decode prog_9_method_53_code 122 = .ok (.getfield 7, 3) ∧ 122 + 3 = 125 := ⟨by decide +kernel, rfl⟩
theorem dc_M_count_125 : decode prog_9_method_53_code 125 = .ok (.bipush 42, 2) ∧ 125 + 2 = 127 := ⟨by decide +kernel, rfl⟩
theorem dc_M_count_127 : decode prog_9_method_53_code 127 = .ok (.iaload, 1) ∧ 127 + 1 = 128 := ⟨by decide +kernel, rfl⟩
theorem dc_M_count_128 : decode prog_9_method_53_code 128 = .ok (.ireturn, 1) := by decide +kernel
theorem dc_M_count_129 : decode prog_9_method_53_code 129 = .ok (.aload_n 0, 1) ∧ 129 + 1 = 130 := ⟨by decide +kernel, rfl⟩
theorem dc_M_count_130 : decode prog_9_method_53_code 130 = .ok (.getfield 7, 3) ∧ 130 + 3 = 133 := ⟨by decide +kernel, rfl⟩
theorem dc_M_count_133 : decode prog_9_method_53_code 133 = .ok (.bipush 63, 2) ∧ 133 + 2 = 135 := ⟨by decide +kernel, rfl⟩
theorem dc_M_count_135 : decode prog_9_method_53_code 135 = .ok (.iaload, 1) ∧ 135 + 1 = 136 := ⟨by decide +kernel, rfl⟩
theorem dc_M_count_136 : decode prog_9_method_53_code 136 = .ok (.ireturn, 1) := by decide +kernel
theorem dc_M_count_137 : decode prog_9_method_53_code 137 = .ok (.aload_n 0, 1) ∧ 137 + 1 = 138 := ⟨by decide +kernel, rfl⟩
theorem dc_M_count_138 : decode prog_9_method_53_code 138 = .ok (.getfield 76, 3) ∧ 138 + 3 = 141 := ⟨by decide +kernel, rfl⟩
theorem dc_M_count_141 : decode prog_9_method_53_code 141 = .ok (.ireturn, 1) := by decide +kernel
theorem dc_M_count_142 : decode prog_9_method_53_code 142 = .ok (.aload_n 0, 1) ∧ 142 + 1 = 143 := ⟨by decide +kernel, rfl⟩
theorem dc_M_count_143 : decode prog_9_method_53_code 143 = .ok (.getfield 26, 3) ∧ 143 + 3 = 146 := ⟨by decide +kernel, rfl⟩
theorem dc_M_count_146 : decode prog_9_method_53_code 146 = .ok (.ireturn, 1) := by decide +kernel
theorem dc_M_count_147 : decode prog_9_method_53_code 147 = .ok (.aload_n 0, 1) ∧ 147 + 1 = 148 := ⟨by decide +kernel, rfl⟩
theorem dc_M_count_148 : decode prog_9_method_53_code 148 = .ok (.getfield 157, 3) ∧ 148 + 3 = 151 := ⟨by decide +kernel, rfl⟩
theorem dc_M_count_151 : decode prog_9_method_53_code 151 = .ok (.ireturn, 1) := by decide +kernel
theorem dc_M_count_152 : decode prog_9_method_53_code 152 = .ok (.iload_n 1, 1) ∧ 152 + 1 = 153 := ⟨by decide +kernel, rfl⟩
theorem dc_M_count_153 : decode prog_9_method_53_code 153 = .ok (.iconst 0, 1) ∧ 153 + 1 = 154 := ⟨by decide +kernel, rfl⟩
theorem dc_M_count_154 : decode prog_9_method_53_code 154 = .ok (.bipush 11, 2) ∧ 154 + 2 = 156 := ⟨by decide +kernel, rfl⟩
theorem dc_M_count_156 : decode prog_9_method_53_code 156 = .ok (.invokestatic 31, 3) ∧ 156 + 3 = 159 := ⟨by decide +kernel, rfl⟩
theorem dc_M_count_159 : decode prog_9_method_53_code 159 = .ok (.ifCond .eq 12, 3) ∧ ((159 : Nat) : Int) + (12) = ((171 : Nat) : Int) ∧ 159 + 3 = 162 := ⟨by decide +kernel, by decide, rfl⟩
theorem dc_M_count_162 : decode prog_9_method_53_code 162 = .ok (.aload_n 0, 1) ∧ 162 + 1 = 163 := ⟨by decide +kernel, rfl⟩
theorem dc_M_count_163 : decode prog_9_method_53_code 163 = .ok (.getfield 7, 3) ∧ 163 + 3 = 166 := ⟨by decide +kernel, rfl⟩
theorem dc_M_count_166 : decode prog_9_method_53_code 166 = .ok (.iload_n 1, 1) ∧ 166 + 1 = 167 := ⟨by decide +kernel, rfl⟩
theorem dc_M_count_167 : decode prog_9_method_53_code 167 = .ok (.iaload, 1) ∧ 167 + 1 = 168 := ⟨by decide +kernel, rfl⟩
theorem dc_M_count_168 : decode prog_9_method_53_code 168 = .ok (.goto 5, 3) ∧ ((168 : Nat) : Int) + (5) = ((173 : Nat) : Int) := ⟨by decide +kernel, by decide⟩
theorem dc_M_count_171 : decode prog_9_method_53_code 171 = .ok (.ldc 64, 2) ∧ 171 + 2 = 173 := ⟨by decide +kernel, rfl⟩
theorem dc_M_count_173 : decode prog_9_method_53_code 173 = .ok (.ireturn, 1) := by decide +kernel
theorem dc_M_account_0 : decode prog_9_method_54_code 0 = .ok (.iload_n 1, 1) ∧ 0 + 1 = 1 := ⟨by decide +kernel, rfl⟩
theorem dc_M_account_1 : decode prog_9_method_54_code 1 = .ok (.iconst 0, 1) ∧ 1 + 1 = 2 := ⟨by decide +kernel, rfl⟩
theorem dc_M_account_2 : decode prog_9_method_54_code 2 = .ok (.iconst 5, 1) ∧ 2 + 1 = 3 := ⟨by decide +kernel, rfl⟩
theorem dc_M_account_3 : decode prog_9_method_54_code 3 = .ok (.invokestatic 31, 3) ∧ 3 + 3 = 6 := ⟨by decide +kernel, rfl⟩
theorem dc_M_account_6 : decode prog_9_method_54_code 6 = .ok (.ifCond .eq 15, 3) ∧ ((6 : Nat) : Int) + (15) = ((21 : Nat) : Int) ∧ 6 + 3 = 9 := ⟨by decide +kernel, by decide, rfl⟩
theorem dc_M_account_9 : decode prog_9_method_54_code 9 = .ok (.aload_n 0, 1) ∧ 9 + 1 = 10 := ⟨by decide +kernel, rfl⟩
theorem dc_M_account_10 : decode prog_9_method_54_code 10 = .ok (.getfield 7, 3) ∧ 10 + 3 = 13 := ⟨by decide +kernel, rfl⟩
theorem dc_M_account_13 : decode prog_9_method_54_code 13 = .ok (.bipush 12, 2) ∧ 13 + 2 = 15 := ⟨by decide +kernel, rfl⟩
theorem dc_M_account_15 : decode prog_9_method_54_code 15 = .ok (.iload_n 1, 1) ∧ 15 + 1 = 16 := ⟨by decide +kernel, rfl⟩
theorem dc_M_account_16 : decode prog_9_method_54_code 16 = .ok (.iadd, 1) ∧ 16 + 1 = 17 := ⟨by decide +kernel, rfl⟩
theorem dc_M_account_17 : decode prog_9_method_54_code 17 = .ok (.iaload, 1) ∧ 17 + 1 = 18 := ⟨by decide +kernel, rfl⟩
theorem dc_M_account_18 : decode prog_9_method_54_code 18 = .ok (.goto 5, 3) ∧ ((18 : Nat) : Int) + (5) = ((23 : Nat) : Int) := ⟨by decide +kernel, by decide⟩
theorem dc_M_account_21 : decode prog_9_method_54_code 21 = .ok (.ldc 64, 2) ∧ 21 + 2 = 23 := ⟨by decide +kernel, rfl⟩
theorem dc_M_account_23 : decode prog_9_method_54_code 23 = .ok (.ireturn, 1) := by decide +kernel
theorem dc_M_loadAt_0 : decode prog_9_method_55_code 0 = .ok (.iload_n 1, 1) ∧ 0 + 1 = 1 := ⟨by decide +kernel, rfl⟩
theorem dc_M_loadAt_1 : decode prog_9_method_55_code 1 = .ok (.invokestatic 65, 3) ∧ 1 + 3 = 4 := ⟨by decide +kernel, rfl⟩
theorem dc_M_loadAt_4 : decode prog_9_method_55_code 4 = .ok (.ifCond .eq 11, 3) ∧ ((4 : Nat) : Int) + (11) = ((15 : Nat) : Int) ∧ 4 + 3 = 7 := ⟨by decide +kernel, by decide, rfl⟩
theorem dc_M_loadAt_7 : decode prog_9_method_55_code 7 = .ok (.aload_n 0, 1) ∧ 7 + 1 = 8 := ⟨by decide +kernel, rfl⟩
theorem dc_M_loadAt_8 : decode prog_9_method_55_code 8 = .ok (.iload_n 1, 1) ∧ 8 + 1 = 9 := ⟨by decide +kernel, rfl⟩
theorem dc_M_loadAt_9 : decode prog_9_method_55_code 9 = .ok (.invokevirtual 116, 3) ∧ 9 + 3 = 12 := ⟨by decide +kernel, rfl⟩
theorem dc_M_loadAt_12 : decode prog_9_method_55_code 12 = .ok (.goto 5, 3) ∧ ((12 : Nat) : Int) + (5) = ((17 : Nat) : Int) := ⟨by decide +kernel, by decide⟩
theorem dc_M_loadAt_15 : decode prog_9_method_55_code 15 = .ok (.ldc 64, 2) ∧ 15 + 2 = 17 := ⟨by decide +kernel, rfl⟩
theorem dc_M_loadAt_17 : decode prog_9_method_55_code 17 = .ok (.ireturn, 1) := by decide +kernel
theorem dc_M_errorAt_0 : decode prog_9_method_56_code 0 = .ok (.iload_n 1, 1) ∧ 0 + 1 = 1 := ⟨by decide +kernel, rfl⟩
theorem dc_M_errorAt_1 : decode prog_9_method_56_code 1 = .ok (.invokestatic 65, 3) ∧ 1 + 3 = 4 := ⟨by decide +kernel, rfl⟩
theorem dc_M_errorAt_4 : decode prog_9_method_56_code 4 = .ok (.ifCond .eq 11, 3) ∧ ((4 : Nat) : Int) + (11) = ((15 : Nat) : Int) ∧ 4 + 3 = 7 := ⟨by decide +kernel, by decide, rfl⟩
theorem dc_M_errorAt_7 : decode prog_9_method_56_code 7 = .ok (.aload_n 0, 1) ∧ 7 + 1 = 8 := ⟨by decide +kernel, rfl⟩
theorem dc_M_errorAt_8 : decode prog_9_method_56_code 8 = .ok (.iload_n 1, 1) ∧ 8 + 1 = 9 := ⟨by decide +kernel, rfl⟩
theorem dc_M_errorAt_9 : decode prog_9_method_56_code 9 = .ok (.invokevirtual 126, 3) ∧ 9 + 3 = 12 := ⟨by decide +kernel, rfl⟩
theorem dc_M_errorAt_12 : decode prog_9_method_56_code 12 = .ok (.goto 5, 3) ∧ ((12 : Nat) : Int) + (5) = ((17 : Nat) : Int) := ⟨by decide +kernel, by decide⟩
theorem dc_M_errorAt_15 : decode prog_9_method_56_code 15 = .ok (.ldc 64, 2) ∧ 15 + 2 = 17 := ⟨by decide +kernel, rfl⟩
theorem dc_M_errorAt_17 : decode prog_9_method_56_code 17 = .ok (.ireturn, 1) := by decide +kernel
theorem dc_M_command_0 : decode prog_9_method_57_code 0 = .ok (.iload_n 1, 1) ∧ 0 + 1 = 1 := ⟨by decide +kernel, rfl⟩
theorem dc_M_command_1 : decode prog_9_method_57_code 1 = .ok (.ifCond .lt 12, 3) ∧ ((1 : Nat) : Int) + (12) = ((13 : Nat) : Int) ∧ 1 + 3 = 4 := ⟨by decide +kernel, by decide, rfl⟩
theorem dc_M_command_4 : decode prog_9_method_57_code 4 = .ok (.iload_n 2, 1) ∧ 4 + 1 = 5 := ⟨by decide +kernel, rfl⟩
theorem dc_M_command_5 : decode prog_9_method_57_code 5 = .ok (.iconst 0, 1) ∧ 5 + 1 = 6 := ⟨by decide +kernel, rfl⟩
theorem dc_M_command_6 : decode prog_9_method_57_code 6 = .ok (.iconst 1, 1) ∧ 6 + 1 = 7 := ⟨by decide +kernel, rfl⟩
theorem dc_M_command_7 : decode prog_9_method_57_code 7 = .ok (.invokestatic 31, 3) ∧ 7 + 3 = 10 := ⟨by decide +kernel, rfl⟩
theorem dc_M_command_10 : decode prog_9_method_57_code 10 = .ok (.ifCond .ne 6, 3) ∧ ((10 : Nat) : Int) + (6) = ((16 : Nat) : Int) ∧ 10 + 3 = 13 := ⟨by decide +kernel, by decide, rfl⟩
theorem dc_M_command_13 : decode prog_9_method_57_code 13 = .ok (.ldc 64, 2) ∧ 13 + 2 = 15 := ⟨by decide +kernel, rfl⟩
theorem dc_M_command_15 : decode prog_9_method_57_code 15 = .ok (.ireturn, 1) := by decide +kernel
theorem dc_M_command_16 : decode prog_9_method_57_code 16 = .ok (.iload_n 1, 1) ∧ 16 + 1 = 17 := ⟨by decide +kernel, rfl⟩
theorem dc_M_command_17 : decode prog_9_method_57_code 17 = .ok (.aload_n 0, 1) ∧ 17 + 1 = 18 := ⟨by decide +kernel, rfl⟩
theorem dc_M_command_18 : decode prog_9_method_57_code 18 = .ok (.getfield 7, 3) ∧ 18 + 3 = 21 := ⟨by decide +kernel, rfl⟩
theorem dc_M_command_21 : decode prog_9_method_57_code 21 = .ok (.bipush 63, 2) ∧ 21 + 2 = 23 := ⟨by decide +kernel, rfl⟩
theorem dc_M_command_23 : decode prog_9_method_57_code 23 = .ok (.iaload, 1) ∧ 23 + 1 = 24 := ⟨by decide +kernel, rfl⟩
theorem dc_M_command_24 : decode prog_9_method_57_code 24 = .ok (.if_icmp .ge 12, 3) ∧ ((24 : Nat) : Int) + (12) = ((36 : Nat) : Int) ∧ 24 + 3 = 27 := ⟨by decide +kernel, by decide, rfl⟩
theorem dc_M_command_27 : decode prog_9_method_57_code 27 = .ok (.aload_n 0, 1) ∧ 27 + 1 = 28 := ⟨by decide +kernel, rfl⟩
theorem dc_M_command_28 : decode prog_9_method_57_code 28 = .ok (.iload_n 1, 1) ∧ 28 + 1 = 29 := ⟨by decide +kernel, rfl⟩
theorem dc_M_command_29 : decode prog_9_method_57_code 29 = .ok (.iload_n 2, 1) ∧ 29 + 1 = 30 := ⟨by decide +kernel, rfl⟩
theorem dc_M_command_30 : decode prog_9_method_57_code 30 = .ok (.invokevirtual 139, 3) ∧ 30 + 3 = 33 := ⟨by decide +kernel, rfl⟩
theorem dc_M_command_33 : decode prog_9_method_57_code 33 = .ok (.goto 5, 3) ∧ ((33 : Nat) : Int) + (5) = ((38 : Nat) : Int) := ⟨by decide +kernel, by decide⟩
theorem dc_M_command_36 : decode prog_9_method_57_code 36 = .ok (.ldc 145, 2) ∧ 36 + 2 = 38 := ⟨by decide +kernel, rfl⟩
theorem dc_M_command_38 : decode prog_9_method_57_code 38 = .ok (.ireturn, 1) := by decide +kernel
theorem dc_M_flag_0 : decode prog_9_method_58_code 0 = .ok (.iload_n 1, 1) ∧ 0 + 1 = 1 := ⟨by decide +kernel, rfl⟩
theorem dc_M_flag_1 : decode prog_9_method_58_code 1 = .ok (.iconst 0, 1) ∧ 1 + 1 = 2 := ⟨by decide +kernel, rfl⟩
theorem dc_M_flag_2 : decode prog_9_method_58_code 2 = .ok (.iconst 1, 1) ∧ 2 + 1 = 3 := ⟨by decide +kernel, rfl⟩
theorem dc_M_flag_3 : decode prog_9_method_58_code 3 = .ok (.invokestatic 31, 3) ∧ 3 + 3 = 6 := ⟨by decide +kernel, rfl⟩
theorem dc_M_flag_6 : decode prog_9_method_58_code 6 = .ok (.ifCond .ne 6, 3) ∧ ((6 : Nat) : Int) + (6) = ((12 : Nat) : Int) ∧ 6 + 3 = 9 := ⟨by decide +kernel, by decide, rfl⟩
theorem dc_M_flag_9 : decode prog_9_method_58_code 9 = .ok (.ldc 64, 2) ∧ 9 + 2 = 11 := ⟨by decide +kernel, rfl⟩
theorem dc_M_flag_11 : decode prog_9_method_58_code 11 = .ok (.ireturn, 1) := by decide +kernel
theorem dc_M_flag_12 : decode prog_9_method_58_code 12 = .ok (.aload_n 0, 1) ∧ 12 + 1 = 13 := ⟨by decide +kernel, rfl⟩
theorem dc_M_flag_13 : decode prog_9_method_58_code 13 = .ok (.getfield 7, 3) ∧ 13 + 3 = 16 := ⟨by decide +kernel, rfl⟩
theorem dc_M_flag_16 : decode prog_9_method_58_code 16 = .ok (.bipush 18, 2) ∧ 16 + 2 = 18 := ⟨by decide +kernel, rfl⟩
theorem dc_M_flag_18 : decode prog_9_method_58_code 18 = .ok (.iaload, 1) ∧ 18 + 1 = 19 := ⟨by decide +kernel, rfl⟩
theorem dc_M_flag_19 : decode prog_9_method_58_code 19 = .ok (.iconst 1, 1) ∧ 19 + 1 = 20 := ⟨by decide +kernel, rfl⟩
theorem dc_M_flag_20 : decode prog_9_method_58_code 20 = .ok (.if_icmp .ne 15, 3) ∧ ((20 : Nat) : Int) + (15) = ((35 : Nat) : Int) ∧ 20 + 3 = 23 := ⟨by decide +kernel, by decide, rfl⟩
theorem dc_M_flag_23 : decode prog_9_method_58_code 23 = .ok (.aload_n 0, 1) ∧ 23 + 1 = 24 := ⟨by decide +kernel, rfl⟩
theorem dc_M_flag_24 : decode prog_9_method_58_code 24 = .ok (.getfield 7, 3) ∧ 24 + 3 = 27 := ⟨by decide +kernel, rfl⟩
theorem dc_M_flag_27 : decode prog_9_method_58_code 27 = .ok (.bipush 19, 2) ∧ 27 + 2 = 29 := ⟨by decide +kernel, rfl⟩
theorem dc_M_flag_29 : decode prog_9_method_58_code 29 = .ok (.iload_n 1, 1) ∧ 29 + 1 = 30 := ⟨by decide +kernel, rfl⟩
theorem dc_M_flag_30 : decode prog_9_method_58_code 30 = .ok (.iadd, 1) ∧ 30 + 1 = 31 := ⟨by decide +kernel, rfl⟩
theorem dc_M_flag_31 : decode prog_9_method_58_code 31 = .ok (.iaload, 1) ∧ 31 + 1 = 32 := ⟨by decide +kernel, rfl⟩
theorem dc_M_flag_32 : decode prog_9_method_58_code 32 = .ok (.goto 5, 3) ∧ ((32 : Nat) : Int) + (5) = ((37 : Nat) : Int) := ⟨by decide +kernel, by decide⟩
theorem dc_M_flag_35 : decode prog_9_method_58_code 35 = .ok (.ldc 145, 2) ∧ 35 + 2 = 37 := ⟨by decide +kernel, rfl⟩
theorem dc_M_flag_37 : decode prog_9_method_58_code 37 = .ok (.ireturn, 1) := by decide +kernel
theorem dc_M_why_0 : decode prog_9_method_59_code 0 = .ok (.iload_n 1, 1) ∧ 0 + 1 = 1 := ⟨by decide +kernel, rfl⟩
theorem dc_M_why_1 : decode prog_9_method_59_code 1 = .ok (.invokestatic 65, 3) ∧ 1 + 3 = 4 := ⟨by decide +kernel, rfl⟩
theorem dc_M_why_4 : decode prog_9_method_59_code 4 = .ok (.ifCond .ne 6, 3) ∧ ((4 : Nat) : Int) + (6) = ((10 : Nat) : Int) ∧ 4 + 3 = 7 := ⟨by decide +kernel, by decide, rfl⟩
theorem dc_M_why_7 : decode prog_9_method_59_code 7 = .ok (.ldc 64, 2) ∧ 7 + 2 = 9 := ⟨by decide +kernel, rfl⟩
theorem dc_M_why_9 : decode prog_9_method_59_code 9 = .ok (.ireturn, 1) := by decide +kernel
theorem dc_M_why_10 : decode prog_9_method_59_code 10 = .ok (.aload_n 0, 1) ∧ 10 + 1 = 11 := ⟨by decide +kernel, rfl⟩
theorem dc_M_why_11 : decode prog_9_method_59_code 11 = .ok (.iload_n 1, 1) ∧ 11 + 1 = 12 := ⟨by decide +kernel, rfl⟩
theorem dc_M_why_12 : decode prog_9_method_59_code 12 = .ok (.invokevirtual 129, 3) ∧ 12 + 3 = 15 := ⟨by decide +kernel, rfl⟩
theorem dc_M_why_15 : decode prog_9_method_59_code 15 = .ok (.istore_n 2, 1) ∧ 15 + 1 = 16 := ⟨by decide +kernel, rfl⟩
theorem dc_M_why_16 : decode prog_9_method_59_code 16 = .ok (.iload_n 2, 1) ∧ 16 + 1 = 17 := ⟨by decide +kernel, rfl⟩
theorem dc_M_why_17 : decode prog_9_method_59_code 17 = .ok (.invokestatic 65, 3) ∧ 17 + 3 = 20 := ⟨by decide +kernel, rfl⟩
theorem dc_M_why_20 : decode prog_9_method_59_code 20 = .ok (.ifCond .ne 5, 3) ∧ ((20 : Nat) : Int) + (5) = ((25 : Nat) : Int) ∧ 20 + 3 = 23 := ⟨by decide +kernel, by decide, rfl⟩
theorem dc_M_why_23 : decode prog_9_method_59_code 23 = .ok (.iconst 1, 1) ∧ 23 + 1 = 24 := ⟨by decide +kernel, rfl⟩
theorem dc_M_why_24 : decode prog_9_method_59_code 24 = .ok (.ireturn, 1) := by decide +kernel
theorem dc_M_why_25 : decode prog_9_method_59_code 25 = .ok (.aload_n 0, 1) ∧ 25 + 1 = 26 := ⟨by decide +kernel, rfl⟩
theorem dc_M_why_26 : decode prog_9_method_59_code 26 = .ok (.invokevirtual 99, 3) ∧ 26 + 3 = 29 := ⟨by decide +kernel, rfl⟩
theorem dc_M_why_29 : decode prog_9_method_59_code 29 = .ok (.aload_n 0, 1) ∧ 29 + 1 = 30 := ⟨by decide +kernel, rfl⟩
theorem dc_M_why_30 : decode prog_9_method_59_code 30 = .ok (.iload_n 1, 1) ∧ 30 + 1 = 31 := ⟨by decide +kernel, rfl⟩
theorem dc_M_why_31 : decode prog_9_method_59_code 31 = .ok (.invokevirtual 136, 3) ∧ 31 + 3 = 34 := ⟨by decide +kernel, rfl⟩
theorem dc_M_why_34 : decode prog_9_method_59_code 34 = .ok (.aload_n 0, 1) ∧ 34 + 1 = 35 := ⟨by decide +kernel, rfl⟩
theorem dc_M_why_35 : decode prog_9_method_59_code 35 = .ok (.invokevirtual 106, 3) ∧ 35 + 3 = 38 := ⟨by decide +kernel, rfl⟩
theorem dc_M_why_38 : decode prog_9_method_59_code 38 = .ok (.aload_n 0, 1) ∧ 38 + 1 = 39 := ⟨by decide +kernel, rfl⟩
theorem dc_M_why_39 : decode prog_9_method_59_code 39 = .ok (.getfield 19, 3) ∧ 39 + 3 = 42 := ⟨by decide +kernel, rfl⟩
theorem dc_M_why_42 : decode prog_9_method_59_code 42 = .ok (.bipush 6, 2) ∧ 42 + 2 = 44 := ⟨by decide +kernel, rfl⟩
theorem dc_M_why_44 : decode prog_9_method_59_code 44 = .ok (.iaload, 1) ∧ 44 + 1 = 45 := ⟨by decide +kernel, rfl⟩
theorem dc_M_why_45 : decode prog_9_method_59_code 45 = .ok (.iload_n 2, 1) ∧ 45 + 1 = 46 := ⟨by decide +kernel, rfl⟩
theorem dc_M_why_46 : decode prog_9_method_59_code 46 = .ok (.if_icmp .eq 5, 3) ∧ ((46 : Nat) : Int) + (5) = ((51 : Nat) : Int) ∧ 46 + 3 = 49 := ⟨by decide +kernel, by decide, rfl⟩
theorem dc_M_why_49 : decode prog_9_method_59_code 49 = .ok (.iconst 2, 1) ∧ 49 + 1 = 50 := ⟨by decide +kernel, rfl⟩
theorem dc_M_why_50 : decode prog_9_method_59_code 50 = .ok (.ireturn, 1) := by decide +kernel
theorem dc_M_why_51 : decode prog_9_method_59_code 51 = .ok (.aload_n 0, 1) ∧ 51 + 1 = 52 := ⟨by decide +kernel, rfl⟩
theorem dc_M_why_52 : decode prog_9_method_59_code 52 = .ok (.getfield 19, 3) ∧ 52 + 3 = 55 := ⟨by decide +kernel, rfl⟩
theorem dc_M_why_55 : decode prog_9_method_59_code 55 = .ok (.bipush 9, 2) ∧ 55 + 2 = 57 := ⟨by decide +kernel, rfl⟩
theorem dc_M_why_57 : decode prog_9_method_59_code 57 = .ok (.iaload, 1) ∧ 57 + 1 = 58 := ⟨by decide +kernel, rfl⟩
theorem dc_M_why_58 : decode prog_9_method_59_code 58 = .ok (.ifCond .eq 5, 3) ∧ ((58 : Nat) : Int) + (5) = ((63 : Nat) : Int) ∧ 58 + 3 = 61 := ⟨by decide +kernel, by decide, rfl⟩
theorem dc_M_why_61 : decode prog_9_method_59_code 61 = .ok (.iconst 3, 1) ∧ 61 + 1 = 62 := ⟨by decide +kernel, rfl⟩
theorem dc_M_why_62 : decode prog_9_method_59_code 62 = .ok (.ireturn, 1) := by decide +kernel
theorem dc_M_why_63 : decode prog_9_method_59_code 63 = .ok (.aload_n 0, 1) ∧ 63 + 1 = 64 := ⟨by decide +kernel, rfl⟩
theorem dc_M_why_64 : decode prog_9_method_59_code 64 = .ok (.getfield 19, 3) ∧ 64 + 3 = 67 := ⟨by decide +kernel, rfl⟩
theorem dc_M_why_67 : decode prog_9_method_59_code 67 = .ok (.bipush 7, 2) ∧ 67 + 2 = 69 := ⟨by decide +kernel, rfl⟩
theorem dc_M_why_69 : decode prog_9_method_59_code 69 = .ok (.iaload, 1) ∧ 69 + 1 = 70 := ⟨by decide +kernel, rfl⟩
theorem dc_M_why_70 : decode prog_9_method_59_code 70 = .ok (.iload_n 2, 1) ∧ 70 + 1 = 71 := ⟨by decide +kernel, rfl⟩
theorem dc_M_why_71 : decode prog_9_method_59_code 71 = .ok (.if_icmp .eq 19, 3) ∧ ((71 : Nat) : Int) + (19) = ((90 : Nat) : Int) ∧ 71 + 3 = 74 := ⟨by decide +kernel, by decide, rfl⟩
theorem dc_M_why_74 : decode prog_9_method_59_code 74 = .ok (.aload_n 0, 1) ∧ 74 + 1 = 75 := ⟨by decide +kernel, rfl⟩
theorem dc_M_why_75 : decode prog_9_method_59_code 75 = .ok (.getfield 19, 3) ∧ 75 + 3 = 78 := ⟨by decide +kernel, rfl⟩
theorem dc_M_why_78 : decode prog_9_method_59_code 78 = .ok (.bipush 10, 2) ∧ 78 + 2 = 80 := ⟨by decide +kernel, rfl⟩
theorem dc_M_why_80 : decode prog_9_method_59_code 80 = .ok (.iaload, 1) ∧ 80 + 1 = 81 := ⟨by decide +kernel, rfl⟩
theorem dc_M_why_81 : decode prog_9_method_59_code 81 = .ok (.ifCond .eq 7, 3) ∧ ((81 : Nat) : Int) + (7) = ((88 : Nat) : Int) ∧ 81 + 3 = 84 := ⟨by decide +kernel, by decide, rfl⟩
theorem dc_M_why_84 : decode prog_9_method_59_code 84 = .ok (.iconst 4, 1) ∧ 84 + 1 = 85 := ⟨by decide +kernel, rfl⟩
theorem dc_M_why_85 : decode prog_9_method_59_code 85 = .ok (.goto 4, 3) ∧ ((85 : Nat) : Int) + (4) = ((89 : Nat) : Int) := ⟨by decide +kernel, by decide⟩
theorem dc_M_why_88 : decode prog_9_method_59_code 88 = .ok (.iconst 5, 1) ∧ 88 + 1 = 89 := ⟨by decide +kernel, rfl⟩
theorem dc_M_why_89 : decode prog_9_method_59_code 89 = .ok (.ireturn, 1) := by decide +kernel
theorem dc_M_why_90 : decode prog_9_method_59_code 90 = .ok (.aload_n 0, 1) ∧ 90 + 1 = 91 := ⟨by decide +kernel, rfl⟩
theorem dc_M_why_91 : decode prog_9_method_59_code 91 = .ok (.getfield 19, 3) ∧ 91 + 3 = 94 := ⟨by decide +kernel, rfl⟩
theorem dc_M_why_94 : decode prog_9_method_59_code 94 = .ok (.bipush 8, 2) ∧ 94 + 2 = 96 := ⟨by decide +kernel, rfl⟩
theorem dc_M_why_96 : decode prog_9_method_59_code 96 = .ok (.iaload, 1) ∧ 96 + 1 = 97 := ⟨by decide +kernel, rfl⟩
theorem dc_M_why_97 : decode prog_9_method_59_code 97 = .ok (.iload_n 2, 1) ∧ 97 + 1 = 98 := ⟨by decide +kernel, rfl⟩
theorem dc_M_why_98 : decode prog_9_method_59_code 98 = .ok (.if_icmp .eq 8, 3) ∧ ((98 : Nat) : Int) + (8) = ((106 : Nat) : Int) ∧ 98 + 3 = 101 := ⟨by decide +kernel, by decide, rfl⟩
theorem dc_M_why_101 : decode prog_9_method_59_code 101 = .ok (.bipush 6, 2) ∧ 101 + 2 = 103 := ⟨by decide +kernel, rfl⟩
theorem dc_M_why_103 : decode prog_9_method_59_code 103 = .ok (.goto 4, 3) ∧ ((103 : Nat) : Int) + (4) = ((107 : Nat) : Int) := ⟨by decide +kernel, by decide⟩
theorem dc_M_why_106 : decode prog_9_method_59_code 106 = .ok (.iconst 0, 1) ∧ 106 + 1 = 107 := ⟨by decide +kernel, rfl⟩
theorem dc_M_why_107 : decode prog_9_method_59_code 107 = .ok (.ireturn, 1) := by decide +kernel
theorem dc_M_losses_0 : decode prog_9_method_60_code 0 = .ok (.iload_n 1, 1) ∧ 0 + 1 = 1 := ⟨by decide +kernel, rfl⟩
theorem dc_M_losses_1 : decode prog_9_method_60_code 1 = .ok (.invokestatic 65, 3) ∧ 1 + 3 = 4 := ⟨by decide +kernel, rfl⟩
theorem dc_M_losses_4 : decode prog_9_method_60_code 4 = .ok (.ifCond .eq 14, 3) ∧ ((4 : Nat) : Int) + (14) = ((18 : Nat) : Int) ∧ 4 + 3 = 7 := ⟨by decide +kernel, by decide, rfl⟩
theorem dc_M_losses_7 : decode prog_9_method_60_code 7 = .ok (.iload_n 2, 1) ∧ 7 + 1 = 8 := ⟨by decide +kernel, rfl⟩
theorem dc_M_losses_8 : decode prog_9_method_60_code 8 = .ok (.iconst 1, 1) ∧ 8 + 1 = 9 := ⟨by decide +kernel, rfl⟩
theorem dc_M_losses_9 : decode prog_9_method_60_code 9 = .ok (.sipush 1000, 3) ∧ 9 + 3 = 12 := ⟨by decide +kernel, rfl⟩
theorem dc_M_losses_12 : decode prog_9_method_60_code 12 = .ok (.invokestatic 31, 3) ∧ 12 + 3 = 15 := ⟨by decide +kernel, rfl⟩
theorem dc_M_losses_15 : decode prog_9_method_60_code 15 = .ok (.ifCond .ne 6, 3) ∧ ((15 : Nat) : Int) + (6) = ((21 : Nat) : Int) ∧ 15 + 3 = 18 := ⟨by decide +kernel, by decide, rfl⟩
theorem dc_M_losses_18 : decode prog_9_method_60_code 18 = .ok (.ldc 64, 2) ∧ 18 + 2 = 20 := ⟨by decide +kernel, rfl⟩
theorem dc_M_losses_20 : decode prog_9_method_60_code 20 = .ok (.ireturn, 1) := by decide +kernel
theorem dc_M_losses_21 : decode prog_9_method_60_code 21 = .ok (.aload_n 0, 1) ∧ 21 + 1 = 22 := ⟨by decide +kernel, rfl⟩
theorem dc_M_losses_22 : decode prog_9_method_60_code 22 = .ok (.iload_n 1, 1) ∧ 22 + 1 = 23 := ⟨by decide +kernel, rfl⟩
theorem dc_M_losses_23 : decode prog_9_method_60_code 23 = .ok (.invokevirtual 129, 3) ∧ 23 + 3 = 26 := ⟨by decide +kernel, rfl⟩
theorem dc_M_losses_26 : decode prog_9_method_60_code 26 = .ok (.invokestatic 65, 3) ∧ 26 + 3 = 29 := ⟨by decide +kernel, rfl⟩
theorem dc_M_losses_29 : decode prog_9_method_60_code 29 = .ok (.ifCond .ne 6, 3) ∧ ((29 : Nat) : Int) + (6) = ((35 : Nat) : Int) ∧ 29 + 3 = 32 := ⟨by decide +kernel, by decide, rfl⟩
theorem dc_M_losses_32 : decode prog_9_method_60_code 32 = .ok (.ldc 145, 2) ∧ 32 + 2 = 34 := ⟨by decide +kernel, rfl⟩
theorem dc_M_losses_34 : decode prog_9_method_60_code 34 = .ok (.ireturn, 1) := by decide +kernel
theorem dc_M_losses_35 : decode prog_9_method_60_code 35 = .ok (.aload_n 0, 1) ∧ 35 + 1 = 36 := ⟨by decide +kernel, rfl⟩
theorem dc_M_losses_36 : decode prog_9_method_60_code 36 = .ok (.invokevirtual 99, 3) ∧ 36 + 3 = 39 := ⟨by decide +kernel, rfl⟩
theorem dc_M_losses_39 : decode prog_9_method_60_code 39 = .ok (.aload_n 0, 1) ∧ 39 + 1 = 40 := ⟨by decide +kernel, rfl⟩
theorem dc_M_losses_40 : decode prog_9_method_60_code 40 = .ok (.getfield 7, 3) ∧ 40 + 3 = 43 := ⟨by decide +kernel, rfl⟩
theorem dc_M_losses_43 : decode prog_9_method_60_code 43 = .ok (.iconst 2, 1) ∧ 43 + 1 = 44 := ⟨by decide +kernel, rfl⟩
theorem dc_M_losses_44 : decode prog_9_method_60_code 44 = .ok (.iload_n 2, 1) ∧ 44 + 1 = 45 := ⟨by decide +kernel, rfl⟩
theorem dc_M_losses_45 : decode prog_9_method_60_code 45 = .ok (.iastore, 1) ∧ 45 + 1 = 46 := ⟨by decide +kernel, rfl⟩
theorem dc_M_losses_46 : decode prog_9_method_60_code 46 = .ok (.aload_n 0, 1) ∧ 46 + 1 = 47 := ⟨by decide +kernel, rfl⟩
theorem dc_M_losses_47 : decode prog_9_method_60_code 47 = .ok (.iload_n 1, 1) ∧ 47 + 1 = 48 := ⟨by decide +kernel, rfl⟩
theorem dc_M_losses_48 : decode prog_9_method_60_code 48 = .ok (.invokevirtual 136, 3) ∧ 48 + 3 = 51 := ⟨by decide +kernel, rfl⟩
theorem dc_M_losses_51 : decode prog_9_method_60_code 51 = .ok (.aload_n 0, 1) ∧ 51 + 1 = 52 := ⟨by decide +kernel, rfl⟩
theorem dc_M_losses_52 : decode prog_9_method_60_code 52 = .ok (.invokevirtual 106, 3) ∧ 52 + 3 = 55 := ⟨by decide +kernel, rfl⟩
theorem dc_M_losses_55 : decode prog_9_method_60_code 55 = .ok (.aload_n 0, 1) ∧ 55 + 1 = 56 := ⟨by decide +kernel, rfl⟩
theorem dc_M_losses_56 : decode prog_9_method_60_code 56 = .ok (.getfield 19, 3) ∧ 56 + 3 = 59 := ⟨by decide +kernel, rfl⟩
theorem dc_M_losses_59 : decode prog_9_method_60_code 59 = .ok (.bipush 10, 2) ∧ 59 + 2 = 61 := ⟨by decide +kernel, rfl⟩
theorem dc_M_losses_61 : decode prog_9_method_60_code 61 = .ok (.iaload, 1) ∧ 61 + 1 = 62 := ⟨by decide +kernel, rfl⟩
theorem dc_M_losses_62 : decode prog_9_method_60_code 62 = .ok (.aload_n 0, 1) ∧ 62 + 1 = 63 := ⟨by decide +kernel, rfl⟩
theorem dc_M_losses_63 : decode prog_9_method_60_code 63 = .ok (.getfield 7, 3) ∧ 63 + 3 = 66 := ⟨by decide +kernel, rfl⟩
theorem dc_M_losses_66 : decode prog_9_method_60_code 66 = .ok (.bipush 10, 2) ∧ 66 + 2 = 68 := ⟨by decide +kernel, rfl⟩
theorem dc_M_losses_68 : decode prog_9_method_60_code 68 = .ok (.iaload, 1) ∧ 68 + 1 = 69 := ⟨by decide +kernel, rfl⟩
theorem dc_M_losses_69 : decode prog_9_method_60_code 69 = .ok (.isub, 1) ∧ 69 + 1 = 70 := ⟨by decide +kernel, rfl⟩
theorem dc_M_losses_70 : decode prog_9_method_60_code 70 = .ok (.ireturn, 1) := by decide +kernel
theorem dc_M_fastest_0 : decode prog_9_method_62_code 0 = .ok (.iload_n 1, 1) ∧ 0 + 1 = 1 := ⟨by decide +kernel, rfl⟩
theorem dc_M_fastest_1 : decode prog_9_method_62_code 1 = .ok (.invokestatic 65, 3) ∧ 1 + 3 = 4 := ⟨by decide +kernel, rfl⟩
theorem dc_M_fastest_4 : decode prog_9_method_62_code 4 = .ok (.ifCond .ne 6, 3) ∧ ((4 : Nat) : Int) + (6) = ((10 : Nat) : Int) ∧ 4 + 3 = 7 := ⟨by decide +kernel, by decide, rfl⟩
theorem dc_M_fastest_7 : decode prog_9_method_62_code 7 = .ok (.ldc 64, 2) ∧ 7 + 2 = 9 := ⟨by decide +kernel, rfl⟩
theorem dc_M_fastest_9 : decode prog_9_method_62_code 9 = .ok (.ireturn, 1) := by decide +kernel
theorem dc_M_fastest_10 : decode prog_9_method_62_code 10 = .ok (.aload_n 0, 1) ∧ 10 + 1 = 11 := ⟨by decide +kernel, rfl⟩
theorem dc_M_fastest_11 : decode prog_9_method_62_code 11 = .ok (.iload_n 1, 1) ∧ 11 + 1 = 12 := ⟨by decide +kernel, rfl⟩
theorem dc_M_fastest_12 : decode prog_9_method_62_code 12 = .ok (.invokevirtual 129, 3) ∧ 12 + 3 = 15 := ⟨by decide +kernel, rfl⟩
theorem dc_M_fastest_15 : decode prog_9_method_62_code 15 = .ok (.invokestatic 65, 3) ∧ 15 + 3 = 18 := ⟨by decide +kernel, rfl⟩
theorem dc_M_fastest_18 : decode prog_9_method_62_code 18 = .ok (.ifCond .ne 6, 3) ∧ ((18 : Nat) : Int) + (6) = ((24 : Nat) : Int) ∧ 18 + 3 = 21 := ⟨by decide +kernel, by decide, rfl⟩
theorem dc_M_fastest_21 : decode prog_9_method_62_code 21 = .ok (.ldc 145, 2) ∧ 21 + 2 = 23 := ⟨by decide +kernel, rfl⟩
theorem dc_M_fastest_23 : decode prog_9_method_62_code 23 = .ok (.ireturn, 1) := by decide +kernel
theorem dc_M_fastest_24 : decode prog_9_method_62_code 24 = .ok (.sipush 1000, 3) ∧ 24 + 3 = 27 := ⟨by decide +kernel, rfl⟩
theorem dc_M_fastest_27 : decode prog_9_method_62_code 27 = .ok (.istore_n 2, 1) ∧ 27 + 1 = 28 := ⟨by decide +kernel, rfl⟩
theorem dc_M_fastest_28 : decode prog_9_method_62_code 28 = .ok (.iload_n 2, 1) ∧ 28 + 1 = 29 := ⟨by decide +kernel, rfl⟩
theorem dc_M_fastest_29 : decode prog_9_method_62_code 29 = .ok (.ifCond .le 18, 3) ∧ ((29 : Nat) : Int) + (18) = ((47 : Nat) : Int) ∧ 29 + 3 = 32 := ⟨by decide +kernel, by decide, rfl⟩
theorem dc_M_fastest_32 : decode prog_9_method_62_code 32 = .ok (.aload_n 0, 1) ∧ 32 + 1 = 33 := ⟨by decide +kernel, rfl⟩
theorem dc_M_fastest_33 : decode prog_9_method_62_code 33 = .ok (.iload_n 1, 1) ∧ 33 + 1 = 34 := ⟨by decide +kernel, rfl⟩
theorem dc_M_fastest_34 : decode prog_9_method_62_code 34 = .ok (.iload_n 2, 1) ∧ 34 + 1 = 35 := ⟨by decide +kernel, rfl⟩
theorem dc_M_fastest_35 : decode prog_9_method_62_code 35 = .ok (.invokevirtual 160, 3) ∧ 35 + 3 = 38 := ⟨by decide +kernel, rfl⟩
theorem dc_M_fastest_38 : decode prog_9_method_62_code 38 = .ok (.ifCond .eq 9, 3) ∧ ((38 : Nat) : Int) + (9) = ((47 : Nat) : Int) ∧ 38 + 3 = 41 := ⟨by decide +kernel, by decide, rfl⟩
theorem dc_M_fastest_41 : decode prog_9_method_62_code 41 = .ok (.iinc 2 (-50), 3) ∧ 41 + 3 = 44 := ⟨by decide +kernel, rfl⟩
theorem dc_M_fastest_44 : decode prog_9_method_62_code 44 = .ok (.goto (-16), 3) ∧ ((44 : Nat) : Int) + (-16) = ((28 : Nat) : Int) := ⟨by decide +kernel, by decide⟩
theorem dc_M_fastest_47 : decode prog_9_method_62_code 47 = .ok (.iload_n 2, 1) ∧ 47 + 1 = 48 := ⟨by decide +kernel, rfl⟩
theorem dc_M_fastest_48 : decode prog_9_method_62_code 48 = .ok (.ifCond .ne 8, 3) ∧ ((48 : Nat) : Int) + (8) = ((56 : Nat) : Int) ∧ 48 + 3 = 51 := ⟨by decide +kernel, by decide, rfl⟩
theorem dc_M_fastest_51 : decode prog_9_method_62_code 51 = .ok (.ldc 145, 2) ∧ 51 + 2 = 53 := ⟨by decide +kernel, rfl⟩
theorem dc_M_fastest_53 : decode prog_9_method_62_code 53 = .ok (.goto 4, 3) ∧ ((53 : Nat) : Int) + (4) = ((57 : Nat) : Int) := ⟨by decide +kernel, by decide⟩
theorem dc_M_fastest_56 : decode prog_9_method_62_code 56 = .ok (.iload_n 2, 1) ∧ 56 + 1 = 57 := ⟨by decide +kernel, rfl⟩
theorem dc_M_fastest_57 : decode prog_9_method_62_code 57 = .ok (.ireturn, 1) := by decide +kernel
theorem dc_M_stallsAt_0 : decode prog_9_method_61_code 0 = .ok (.aload_n 0, 1) ∧ 0 + 1 = 1 := ⟨by decide +kernel, rfl⟩
theorem dc_M_stallsAt_1 : decode prog_9_method_61_code 1 = .ok (.invokevirtual 99, 3) ∧ 1 + 3 = 4 := ⟨by decide +kernel, rfl⟩
theorem dc_M_stallsAt_4 : decode prog_9_method_61_code 4 = .ok (.aload_n 0, 1) ∧ 4 + 1 = 5 := ⟨by decide +kernel, rfl⟩
theorem dc_M_stallsAt_5 : decode prog_9_method_61_code 5 = .ok (.getfield 7, 3) ∧ 5 + 3 = 8 := ⟨by decide +kernel, rfl⟩
theorem dc_M_stallsAt_8 : decode prog_9_method_61_code 8 = .ok (.iconst 2, 1) ∧ 8 + 1 = 9 := ⟨by decide +kernel, rfl⟩
theorem dc_M_stallsAt_9 : decode prog_9_method_61_code 9 = .ok (.iload_n 2, 1) ∧ 9 + 1 = 10 := ⟨by decide +kernel, rfl⟩
theorem dc_M_stallsAt_10 : decode prog_9_method_61_code 10 = .ok (.iastore, 1) ∧ 10 + 1 = 11 := ⟨by decide +kernel, rfl⟩
theorem dc_M_stallsAt_11 : decode prog_9_method_61_code 11 = .ok (.aload_n 0, 1) ∧ 11 + 1 = 12 := ⟨by decide +kernel, rfl⟩
theorem dc_M_stallsAt_12 : decode prog_9_method_61_code 12 = .ok (.iload_n 1, 1) ∧ 12 + 1 = 13 := ⟨by decide +kernel, rfl⟩
theorem dc_M_stallsAt_13 : decode prog_9_method_61_code 13 = .ok (.invokevirtual 136, 3) ∧ 13 + 3 = 16 := ⟨by decide +kernel, rfl⟩
theorem dc_M_stallsAt_16 : decode prog_9_method_61_code 16 = .ok (.aload_n 0, 1) ∧ 16 + 1 = 17 := ⟨by decide +kernel, rfl⟩
theorem dc_M_stallsAt_17 : decode prog_9_method_61_code 17 = .ok (.invokevirtual 106, 3) ∧ 17 + 3 = 20 := ⟨by decide +kernel, rfl⟩
theorem dc_M_stallsAt_20 : decode prog_9_method_61_code 20 = .ok (.aload_n 0, 1) ∧ 20 + 1 = 21 := ⟨by decide +kernel, rfl⟩
theorem dc_M_stallsAt_21 : decode prog_9_method_61_code 21 = .ok (.getfield 19, 3) ∧ 21 + 3 = 24 := ⟨by decide +kernel, rfl⟩
theorem dc_M_stallsAt_24 : decode prog_9_method_61_code 24 = .ok (.bipush 13, 2) ∧ 24 + 2 = 26 := ⟨by decide +kernel, rfl⟩
theorem dc_M_stallsAt_26 : decode prog_9_method_61_code 26 = .ok (.iaload, 1) ∧ 26 + 1 = 27 := ⟨by decide +kernel, rfl⟩
theorem dc_M_stallsAt_27 : decode prog_9_method_61_code 27 = .ok (.aload_n 0, 1) ∧ 27 + 1 = 28 := ⟨by decide +kernel, rfl⟩
theorem dc_M_stallsAt_28 : decode prog_9_method_61_code 28 = .ok (.getfield 7, 3) ∧ 28 + 3 = 31 := ⟨by decide +kernel, rfl⟩
theorem dc_M_stallsAt_31 : decode prog_9_method_61_code 31 = .ok (.bipush 13, 2) ∧ 31 + 2 = 33 := ⟨by decide +kernel, rfl⟩
theorem dc_M_stallsAt_33 : decode prog_9_method_61_code 33 = .ok (.iaload, 1) ∧ 33 + 1 = 34 := ⟨by decide +kernel, rfl⟩
theorem dc_M_stallsAt_34 : decode prog_9_method_61_code 34 = .ok (.if_icmp .le 7, 3) ∧ ((34 : Nat) : Int) + (7) = ((41 : Nat) : Int) ∧ 34 + 3 = 37 := ⟨by decide +kernel, by decide, rfl⟩
theorem dc_M_stallsAt_37 : decode prog_9_method_61_code 37 = .ok (.iconst 1, 1) ∧ 37 + 1 = 38 := ⟨by decide +kernel, rfl⟩
theorem dc_M_stallsAt_38 : decode prog_9_method_61_code 38 = .ok (.goto 4, 3) ∧ ((38 : Nat) : Int) + (4) = ((42 : Nat) : Int) := ⟨by decide +kernel, by decide⟩
theorem dc_M_stallsAt_41 : decode prog_9_method_61_code 41 = .ok (.iconst 0, 1) ∧ 41 + 1 = 42 := ⟨by decide +kernel, rfl⟩
theorem dc_M_stallsAt_42 : decode prog_9_method_61_code 42 = .ok (.ireturn, 1) := by decide +kernel
theorem dc_M_counter_0 : decode prog_9_method_63_code 0 = .ok (.iload_n 1, 1) ∧ 0 + 1 = 1 := ⟨by decide +kernel, rfl⟩
theorem dc_M_counter_1 : decode prog_9_method_63_code 1 = .ok (.iconst 0, 1) ∧ 1 + 1 = 2 := ⟨by decide +kernel, rfl⟩
theorem dc_M_counter_2 : decode prog_9_method_63_code 2 = .ok (.iconst 1, 1) ∧ 2 + 1 = 3 := ⟨by decide +kernel, rfl⟩
theorem dc_M_counter_3 : decode prog_9_method_63_code 3 = .ok (.invokestatic 31, 3) ∧ 3 + 3 = 6 := ⟨by decide +kernel, rfl⟩
theorem dc_M_counter_6 : decode prog_9_method_63_code 6 = .ok (.ifCond .ne 6, 3) ∧ ((6 : Nat) : Int) + (6) = ((12 : Nat) : Int) ∧ 6 + 3 = 9 := ⟨by decide +kernel, by decide, rfl⟩
theorem dc_M_counter_9 : decode prog_9_method_63_code 9 = .ok (.ldc 64, 2) ∧ 9 + 2 = 11 := ⟨by decide +kernel, rfl⟩
theorem dc_M_counter_11 : decode prog_9_method_63_code 11 = .ok (.ireturn, 1) := by decide +kernel
theorem dc_M_counter_12 : decode prog_9_method_63_code 12 = .ok (.iload_n 1, 1) ∧ 12 + 1 = 13 := ⟨by decide +kernel, rfl⟩
theorem dc_M_counter_13 : decode prog_9_method_63_code 13 = .ok (.ifCond .ne 13, 3) ∧ ((13 : Nat) : Int) + (13) = ((26 : Nat) : Int) ∧ 13 + 3 = 16 := ⟨by decide +kernel, by decide, rfl⟩
theorem dc_M_counter_16 : decode prog_9_method_63_code 16 = .ok (.aload_n 0, 1) ∧ 16 + 1 = 17 := ⟨by decide +kernel, rfl⟩
theorem dc_M_counter_17 : decode prog_9_method_63_code 17 = .ok (.getfield 7, 3) ∧ 17 + 3 = 20 := ⟨by decide +kernel, rfl⟩
theorem dc_M_counter_20 : decode prog_9_method_63_code 20 = .ok (.bipush 6, 2) ∧ 20 + 2 = 22 := ⟨by decide +kernel, rfl⟩
theorem dc_M_counter_22 : decode prog_9_method_63_code 22 = .ok (.iaload, 1) ∧ 22 + 1 = 23 := ⟨by decide +kernel, rfl⟩
theorem dc_M_counter_23 : decode prog_9_method_63_code 23 = .ok (.goto 34, 3) ∧ ((23 : Nat) : Int) + (34) = ((57 : Nat) : Int) := ⟨by decide +kernel, by decide⟩
theorem dc_M_counter_26 : decode prog_9_method_63_code 26 = .ok (.aload_n 0, 1) ∧ 26 + 1 = 27 := ⟨by decide +kernel, rfl⟩
theorem dc_M_counter_27 : decode prog_9_method_63_code 27 = .ok (.getfield 7, 3) ∧ 27 + 3 = 30 := ⟨by decide +kernel, rfl⟩
theorem dc_M_counter_30 : decode prog_9_method_63_code 30 = .ok (.bipush 7, 2) ∧ 30 + 2 = 32 := ⟨by decide +kernel, rfl⟩
theorem dc_M_counter_32 : decode prog_9_method_63_code 32 = .ok (.iaload, 1) ∧ 32 + 1 = 33 := ⟨by decide +kernel, rfl⟩
theorem dc_M_counter_33 : decode prog_9_method_63_code 33 = .ok (.aload_n 0, 1) ∧ 33 + 1 = 34 := ⟨by decide +kernel, rfl⟩
theorem dc_M_counter_34 : decode prog_9_method_63_code 34 = .ok (.getfield 7, 3) ∧ 34 + 3 = 37 := ⟨by decide +kernel, rfl⟩
theorem dc_M_counter_37 : decode prog_9_method_63_code 37 = .ok (.bipush 9, 2) ∧ 37 + 2 = 39 := ⟨by decide +kernel, rfl⟩
theorem dc_M_counter_39 : decode prog_9_method_63_code 39 = .ok (.iaload, 1) ∧ 39 + 1 = 40 := ⟨by decide +kernel, rfl⟩
theorem dc_M_counter_40 : decode prog_9_method_63_code 40 = .ok (.iadd, 1) ∧ 40 + 1 = 41 := ⟨by decide +kernel, rfl⟩
theorem dc_M_counter_41 : decode prog_9_method_63_code 41 = .ok (.aload_n 0, 1) ∧ 41 + 1 = 42 := ⟨by decide +kernel, rfl⟩
theorem dc_M_counter_42 : decode prog_9_method_63_code 42 = .ok (.getfield 7, 3) ∧ 42 + 3 = 45 := ⟨by decide +kernel, rfl⟩
theorem dc_M_counter_45 : decode prog_9_method_63_code 45 = .ok (.bipush 10, 2) ∧ 45 + 2 = 47 := ⟨by decide +kernel, rfl⟩
theorem dc_M_counter_47 : decode prog_9_method_63_code 47 = .ok (.iaload, 1) ∧ 47 + 1 = 48 := ⟨by decide +kernel, rfl⟩
theorem dc_M_counter_48 : decode prog_9_method_63_code 48 = .ok (.iadd, 1) ∧ 48 + 1 = 49 := ⟨by decide +kernel, rfl⟩
theorem dc_M_counter_49 : decode prog_9_method_63_code 49 = .ok (.aload_n 0, 1) ∧ 49 + 1 = 50 := ⟨by decide +kernel, rfl⟩
theorem dc_M_counter_50 : decode prog_9_method_63_code 50 = .ok (.getfield 7, 3) ∧ 50 + 3 = 53 := ⟨by decide +kernel, rfl⟩
theorem dc_M_counter_53 : decode prog_9_method_63_code 53 = .ok (.bipush 11, 2) ∧ 53 + 2 = 55 := ⟨by decide +kernel, rfl⟩
theorem dc_M_counter_55 : decode prog_9_method_63_code 55 = .ok (.iaload, 1) ∧ 55 + 1 = 56 := ⟨by decide +kernel, rfl⟩
theorem dc_M_counter_56 : decode prog_9_method_63_code 56 = .ok (.iadd, 1) ∧ 56 + 1 = 57 := ⟨by decide +kernel, rfl⟩
theorem dc_M_counter_57 : decode prog_9_method_63_code 57 = .ok (.ireturn, 1) := by decide +kernel
theorem dc_L_law_0 : decode code 0 = .ok (.new 7, 3) ∧ 0 + 3 = 3 := ⟨by decide +kernel, rfl⟩
theorem dc_L_law_3 : decode code 3 = .ok (.dup, 1) ∧ 3 + 1 = 4 := ⟨by decide +kernel, rfl⟩
theorem dc_L_law_4 : decode code 4 = .ok (.invokespecial 9, 3) ∧ 4 + 3 = 7 := ⟨by decide +kernel, rfl⟩
theorem dc_L_law_7 : decode code 7 = .ok (.astore_n 1, 1) ∧ 7 + 1 = 8 := ⟨by decide +kernel, rfl⟩
theorem dc_L_law_8 : decode code 8 = .ok (.new 10, 3) ∧ 8 + 3 = 11 := ⟨by decide +kernel, rfl⟩
theorem dc_L_law_11 : decode code 11 = .ok (.dup, 1) ∧ 11 + 1 = 12 := ⟨by decide +kernel, rfl⟩
theorem dc_L_law_12 : decode code 12 = .ok (.invokespecial 12, 3) ∧ 12 + 3 = 15 := ⟨by decide +kernel, rfl⟩
theorem dc_L_law_15 : decode code 15 = .ok (.astore_n 2, 1) ∧ 15 + 1 = 16 := ⟨by decide +kernel, rfl⟩
theorem dc_L_law_16 : decode code 16 = .ok (.iconst 0, 1) ∧ 16 + 1 = 17 := ⟨by decide +kernel, rfl⟩
theorem dc_L_law_17 : decode code 17 = .ok (.istore_n 3, 1) ∧ 17 + 1 = 18 := ⟨by decide +kernel, rfl⟩
theorem dc_L_law_18 : decode code 18 = .ok (.iload_n 3, 1) ∧ 18 + 1 = 19 := ⟨by decide +kernel, rfl⟩
theorem dc_L_law_19 : decode code 19 = .ok (.aload_n 0, 1) ∧ 19 + 1 = 20 := ⟨by decide +kernel, rfl⟩
theorem dc_L_law_20 : decode code 20 = .ok (.arraylength, 1) ∧ 20 + 1 = 21 := ⟨by decide +kernel, rfl⟩
theorem dc_L_law_21 : decode code 21 = .ok (.iconst 3, 1) ∧ 21 + 1 = 22 := ⟨by decide +kernel, rfl⟩
theorem dc_L_law_22 : decode code 22 = .ok (.isub, 1) ∧ 22 + 1 = 23 := ⟨by decide +kernel, rfl⟩
theorem dc_L_law_23 : decode code 23 = .ok (.if_icmp .gt 773, 3) ∧ ((23 : Nat) : Int) + (773) = ((796 : Nat) : Int) ∧ 23 + 3 = 26 := ⟨by decide +kernel, by decide, rfl⟩
theorem dc_L_law_26 : decode code 26 = .ok (.aload_n 0, 1) ∧ 26 + 1 = 27 := ⟨by decide +kernel, rfl⟩
theorem dc_L_law_27 : decode code 27 = .ok (.iload_n 3, 1) ∧ 27 + 1 = 28 := ⟨by decide +kernel, rfl⟩
theorem dc_L_law_28 : decode code 28 = .ok (.iaload, 1) ∧ 28 + 1 = 29 := ⟨by decide +kernel, rfl⟩
theorem dc_L_law_29 : decode code 29 = .ok (.bipush 31, 2) ∧ 29 + 2 = 31 := ⟨by decide +kernel, rfl⟩
theorem dc_L_law_31 : decode code 31 = .ok (.iand, 1) ∧ 31 + 1 = 32 := ⟨by decide +kernel, rfl⟩
theorem dc_L_law_32 : decode code 32 = .ok (.tableswitch 758 0 25 #[120, 153, 186, 219, 252, 275, 288, 301, 324, 357, 380, 403, 426, 449, 472, 495, 508, 531, 554, 577, 600, 633, 656, 679, 712, 735], 120) ∧ ((32 : Nat) : Int) + (758) = ((790 : Nat) : Int) ∧ (25 : Int) + 1 - (0) = (([152, 185, 218, 251, 284, 307, 320, 333, 356, 389, 412, 435, 458, 481, 504, 527, 540, 563, 586, 609, 632, 665, 688, 711, 744, 767] : List Nat).length : Int) ∧ (#[120, 153, 186, 219, 252, 275, 288, 301, 324, 357, 380, 403, 426, 449, 472, 495, 508, 531, 554, 577, 600, 633, 656, 679, 712, 735] : Array Int).toList.map (fun o => ((32 : Nat) : Int) + o) = ([152, 185, 218, 251, 284, 307, 320, 333, 356, 389, 412, 435, 458, 481, 504, 527, 540, 563, 586, 609, 632, 665, 688, 711, 744, 767] : List Nat).map (fun t : Nat => (t : Int)) := ⟨by decide +kernel, by decide, by decide, by decide⟩
theorem dc_L_law_152 : decode code 152 = .ok (.aload_n 1, 1) ∧ 152 + 1 = 153 := ⟨by decide +kernel, rfl⟩
theorem dc_L_law_153 : decode code 153 = .ok (.aload_n 0, 1) ∧ 153 + 1 = 154 := ⟨by decide +kernel, rfl⟩
theorem dc_L_law_154 : decode code 154 = .ok (.iload_n 3, 1) ∧ 154 + 1 = 155 := ⟨by decide +kernel, rfl⟩
theorem dc_L_law_155 : decode code 155 = .ok (.iconst 1, 1) ∧ 155 + 1 = 156 := ⟨by decide +kernel, rfl⟩
theorem dc_L_law_156 : decode code 156 = .ok (.iadd, 1) ∧ 156 + 1 = 157 := ⟨by decide +kernel, rfl⟩
theorem dc_L_law_157 : decode code 157 = .ok (.iaload, 1) ∧ 157 + 1 = 158 := ⟨by decide +kernel, rfl⟩
theorem dc_L_law_158 : decode code 158 = .ok (.aload_n 0, 1) ∧ 158 + 1 = 159 := ⟨by decide +kernel, rfl⟩
theorem dc_L_law_159 : decode code 159 = .ok (.iload_n 3, 1) ∧ 159 + 1 = 160 := ⟨by decide +kernel, rfl⟩
theorem dc_L_law_160 : decode code 160 = .ok (.iconst 2, 1) ∧ 160 + 1 = 161 := ⟨by decide +kernel, rfl⟩
theorem dc_L_law_161 : decode code 161 = .ok (.iadd, 1) ∧ 161 + 1 = 162 := ⟨by decide +kernel, rfl⟩
theorem dc_L_law_162 : decode code 162 = .ok (.iaload, 1) ∧ 162 + 1 = 163 := ⟨by decide +kernel, rfl⟩
theorem dc_L_law_163 : decode code 163 = .ok (.invokevirtual 13, 3) ∧ 163 + 3 = 166 := ⟨by decide +kernel, rfl⟩
theorem dc_L_law_166 : decode code 166 = .ok (.aload_n 2, 1) ∧ 166 + 1 = 167 := ⟨by decide +kernel, rfl⟩
theorem dc_L_law_167 : decode code 167 = .ok (.aload_n 0, 1) ∧ 167 + 1 = 168 := ⟨by decide +kernel, rfl⟩
theorem dc_L_law_168 : decode code 168 = .ok (.iload_n 3, 1) ∧ 168 + 1 = 169 := ⟨by decide +kernel, rfl⟩
theorem dc_L_law_169 : decode code 169 = .ok (.iconst 1, 1) ∧ 169 + 1 = 170 := ⟨by decide +kernel, rfl⟩
theorem dc_L_law_170 : decode code 170 = .ok (.iadd, 1) ∧ 170 + 1 = 171 := ⟨by decide +kernel, rfl⟩
theorem dc_L_law_171 : decode code 171 = .ok (.iaload, 1) ∧ 171 + 1 = 172 := ⟨by decide +kernel, rfl⟩
theorem dc_L_law_172 : decode code 172 = .ok (.aload_n 0, 1) ∧ 172 + 1 = 173 := ⟨by decide +kernel, rfl⟩
theorem dc_L_law_173 : decode code 173 = .ok (.iload_n 3, 1) ∧ 173 + 1 = 174 := ⟨by decide +kernel, rfl⟩
theorem dc_L_law_174 : decode code 174 = .ok (.iconst 2, 1) ∧ 174 + 1 = 175 := ⟨by decide +kernel, rfl⟩
theorem dc_L_law_175 : decode code 175 = .ok (.iadd, 1) ∧ 175 + 1 = 176 := ⟨by decide +kernel, rfl⟩
theorem dc_L_law_176 : decode code 176 = .ok (.iaload, 1) ∧ 176 + 1 = 177 := ⟨by decide +kernel, rfl⟩
theorem dc_L_law_177 : decode code 177 = .ok (.invokevirtual 17, 3) ∧ 177 + 3 = 180 := ⟨by decide +kernel, rfl⟩
theorem dc_L_law_180 : decode code 180 = .ok (.if_icmp .eq 610, 3) ∧ ((180 : Nat) : Int) + (610) = ((790 : Nat) : Int) ∧ 180 + 3 = 183 := ⟨by decide +kernel, by decide, rfl⟩
theorem dc_L_law_183 : decode code 183 = .ok (.iconst 0, 1) ∧ 183 + 1 = 184 := ⟨by decide +kernel, rfl⟩
theorem dc_L_law_184 : decode code 184 = .ok (.ireturn, 1) := by decide +kernel
theorem dc_L_law_185 : decode code 185 = .ok (.aload_n 1, 1) ∧ 185 + 1 = 186 := ⟨by decide +kernel, rfl⟩
theorem dc_L_law_186 : decode code 186 = .ok (.aload_n 0, 1) ∧ 186 + 1 = 187 := ⟨by decide +kernel, rfl⟩
theorem dc_L_law_187 : decode code 187 = .ok (.iload_n 3, 1) ∧ 187 + 1 = 188 := ⟨by decide +kernel, rfl⟩
theorem dc_L_law_188 : decode code 188 = .ok (.iconst 1, 1) ∧ 188 + 1 = 189 := ⟨by decide +kernel, rfl⟩
theorem dc_L_law_189 : decode code 189 = .ok (.iadd, 1) ∧ 189 + 1 = 190 := ⟨by decide +kernel, rfl⟩
theorem dc_L_law_190 : decode code 190 = .ok (.iaload, 1) ∧ 190 + 1 = 191 := ⟨by decide +kernel, rfl⟩
theorem dc_L_law_191 : decode code 191 = .ok (.aload_n 0, 1) ∧ 191 + 1 = 192 := ⟨by decide +kernel, rfl⟩
theorem dc_L_law_192 : decode code 192 = .ok (.iload_n 3, 1) ∧ 192 + 1 = 193 := ⟨by decide +kernel, rfl⟩
theorem dc_L_law_193 : decode code 193 = .ok (.iconst 2, 1) ∧ 193 + 1 = 194 := ⟨by decide +kernel, rfl⟩
theorem dc_L_law_194 : decode code 194 = .ok (.iadd, 1) ∧ 194 + 1 = 195 := ⟨by decide +kernel, rfl⟩
theorem dc_L_law_195 : decode code 195 = .ok (.iaload, 1) ∧ 195 + 1 = 196 := ⟨by decide +kernel, rfl⟩
theorem dc_L_law_196 : decode code 196 = .ok (.invokevirtual 18, 3) ∧ 196 + 3 = 199 := ⟨by decide +kernel, rfl⟩
theorem dc_L_law_199 : decode code 199 = .ok (.aload_n 2, 1) ∧ 199 + 1 = 200 := ⟨by decide +kernel, rfl⟩
theorem dc_L_law_200 : decode code 200 = .ok (.aload_n 0, 1) ∧ 200 + 1 = 201 := ⟨by decide +kernel, rfl⟩
theorem dc_L_law_201 : decode code 201 = .ok (.iload_n 3, 1) ∧ 201 + 1 = 202 := ⟨by decide +kernel, rfl⟩
theorem dc_L_law_202 : decode code 202 = .ok (.iconst 1, 1) ∧ 202 + 1 = 203 := ⟨by decide +kernel, rfl⟩
theorem dc_L_law_203 : decode code 203 = .ok (.iadd, 1) ∧ 203 + 1 = 204 := ⟨by decide +kernel, rfl⟩
theorem dc_L_law_204 : decode code 204 = .ok (.iaload, 1) ∧ 204 + 1 = 205 := ⟨by decide +kernel, rfl⟩
theorem dc_L_law_205 : decode code 205 = .ok (.aload_n 0, 1) ∧ 205 + 1 = 206 := ⟨by decide +kernel, rfl⟩
theorem dc_L_law_206 : decode code 206 = .ok (.iload_n 3, 1) ∧ 206 + 1 = 207 := ⟨by decide +kernel, rfl⟩
theorem dc_L_law_207 : decode code 207 = .ok (.iconst 2, 1) ∧ 207 + 1 = 208 := ⟨by decide +kernel, rfl⟩
theorem dc_L_law_208 : decode code 208 = .ok (.iadd, 1) ∧ 208 + 1 = 209 := ⟨by decide +kernel, rfl⟩
theorem dc_L_law_209 : decode code 209 = .ok (.iaload, 1) ∧ 209 + 1 = 210 := ⟨by decide +kernel, rfl⟩
theorem dc_L_law_210 : decode code 210 = .ok (.invokevirtual 21, 3) ∧ 210 + 3 = 213 := ⟨by decide +kernel, rfl⟩
theorem dc_L_law_213 : decode code 213 = .ok (.if_icmp .eq 577, 3) ∧ ((213 : Nat) : Int) + (577) = ((790 : Nat) : Int) ∧ 213 + 3 = 216 := ⟨by decide +kernel, by decide, rfl⟩
theorem dc_L_law_216 : decode code 216 = .ok (.iconst 0, 1) ∧ 216 + 1 = 217 := ⟨by decide +kernel, rfl⟩
theorem dc_L_law_217 : decode code 217 = .ok (.ireturn, 1) := by decide +kernel
theorem dc_L_law_218 : decode code 218 = .ok (.aload_n 1, 1) ∧ 218 + 1 = 219 := ⟨by decide +kernel, rfl⟩
theorem dc_L_law_219 : decode code 219 = .ok (.aload_n 0, 1) ∧ 219 + 1 = 220 := ⟨by decide +kernel, rfl⟩
theorem dc_L_law_220 : decode code 220 = .ok (.iload_n 3, 1) ∧ 220 + 1 = 221 := ⟨by decide +kernel, rfl⟩
theorem dc_L_law_221 : decode code 221 = .ok (.iconst 1, 1) ∧ 221 + 1 = 222 := ⟨by decide +kernel, rfl⟩
theorem dc_L_law_222 : decode code 222 = .ok (.iadd, 1) ∧ 222 + 1 = 223 := ⟨by decide +kernel, rfl⟩
theorem dc_L_law_223 : decode code 223 = .ok (.iaload, 1) ∧ 223 + 1 = 224 := ⟨by decide +kernel, rfl⟩
theorem dc_L_law_224 : decode code 224 = .ok (.aload_n 0, 1) ∧ 224 + 1 = 225 := ⟨by decide +kernel, rfl⟩
theorem dc_L_law_225 : decode code 225 = .ok (.iload_n 3, 1) ∧ 225 + 1 = 226 := ⟨by decide +kernel, rfl⟩
theorem dc_L_law_226 : decode code 226 = .ok (.iconst 2, 1) ∧ 226 + 1 = 227 := ⟨by decide +kernel, rfl⟩
theorem dc_L_law_227 : decode code 227 = .ok (.iadd, 1) ∧ 227 + 1 = 228 := ⟨by decide +kernel, rfl⟩
theorem dc_L_law_228 : decode code 228 = .ok (.iaload, 1) ∧ 228 + 1 = 229 := ⟨by decide +kernel, rfl⟩
theorem dc_L_law_229 : decode code 229 = .ok (.invokevirtual 22, 3) ∧ 229 + 3 = 232 := ⟨by decide +kernel, rfl⟩
theorem dc_L_law_232 : decode code 232 = .ok (.aload_n 2, 1) ∧ 232 + 1 = 233 := ⟨by decide +kernel, rfl⟩
theorem dc_L_law_233 : decode code 233 = .ok (.aload_n 0, 1) ∧ 233 + 1 = 234 := ⟨by decide +kernel, rfl⟩
theorem dc_L_law_234 : decode code 234 = .ok (.iload_n 3, 1) ∧ 234 + 1 = 235 := ⟨by decide +kernel, rfl⟩
theorem dc_L_law_235 : decode code 235 = .ok (.iconst 1, 1) ∧ 235 + 1 = 236 := ⟨by decide +kernel, rfl⟩
theorem dc_L_law_236 : decode code 236 = .ok (.iadd, 1) ∧ 236 + 1 = 237 := ⟨by decide +kernel, rfl⟩
theorem dc_L_law_237 : decode code 237 = .ok (.iaload, 1) ∧ 237 + 1 = 238 := ⟨by decide +kernel, rfl⟩
theorem dc_L_law_238 : decode code 238 = .ok (.aload_n 0, 1) ∧ 238 + 1 = 239 := ⟨by decide +kernel, rfl⟩
theorem dc_L_law_239 : decode code 239 = .ok (.iload_n 3, 1) ∧ 239 + 1 = 240 := ⟨by decide +kernel, rfl⟩
theorem dc_L_law_240 : decode code 240 = .ok (.iconst 2, 1) ∧ 240 + 1 = 241 := ⟨by decide +kernel, rfl⟩
theorem dc_L_law_241 : decode code 241 = .ok (.iadd, 1) ∧ 241 + 1 = 242 := ⟨by decide +kernel, rfl⟩
theorem dc_L_law_242 : decode code 242 = .ok (.iaload, 1) ∧ 242 + 1 = 243 := ⟨by decide +kernel, rfl⟩
theorem dc_L_law_243 : decode code 243 = .ok (.invokevirtual 25, 3) ∧ 243 + 3 = 246 := ⟨by decide +kernel, rfl⟩
theorem dc_L_law_246 : decode code 246 = .ok (.if_icmp .eq 544, 3) ∧ ((246 : Nat) : Int) + (544) = ((790 : Nat) : Int) ∧ 246 + 3 = 249 := ⟨by decide +kernel, by decide, rfl⟩
theorem dc_L_law_249 : decode code 249 = .ok (.iconst 0, 1) ∧ 249 + 1 = 250 := ⟨by decide +kernel, rfl⟩
theorem dc_L_law_250 : decode code 250 = .ok (.ireturn, 1) := by decide +kernel
theorem dc_L_law_251 : decode code 251 = .ok (.aload_n 1, 1) ∧ 251 + 1 = 252 := ⟨by decide +kernel, rfl⟩
theorem dc_L_law_252 : decode code 252 = .ok (.aload_n 0, 1) ∧ 252 + 1 = 253 := ⟨by decide +kernel, rfl⟩
theorem dc_L_law_253 : decode code 253 = .ok (.iload_n 3, 1) ∧ 253 + 1 = 254 := ⟨by decide +kernel, rfl⟩
theorem dc_L_law_254 : decode code 254 = .ok (.iconst 1, 1) ∧ 254 + 1 = 255 := ⟨by decide +kernel, rfl⟩
theorem dc_L_law_255 : decode code 255 = .ok (.iadd, 1) ∧ 255 + 1 = 256 := ⟨by decide +kernel, rfl⟩
theorem dc_L_law_256 : decode code 256 = .ok (.iaload, 1) ∧ 256 + 1 = 257 := ⟨by decide +kernel, rfl⟩
theorem dc_L_law_257 : decode code 257 = .ok (.aload_n 0, 1) ∧ 257 + 1 = 258 := ⟨by decide +kernel, rfl⟩
theorem dc_L_law_258 : decode code 258 = .ok (.iload_n 3, 1) ∧ 258 + 1 = 259 := ⟨by decide +kernel, rfl⟩
theorem dc_L_law_259 : decode code 259 = .ok (.iconst 2, 1) ∧ 259 + 1 = 260 := ⟨by decide +kernel, rfl⟩
theorem dc_L_law_260 : decode code 260 = .ok (.iadd, 1) ∧ 260 + 1 = 261 := ⟨by decide +kernel, rfl⟩
theorem dc_L_law_261 : decode code 261 = .ok (.iaload, 1) ∧ 261 + 1 = 262 := ⟨by decide +kernel, rfl⟩
theorem dc_L_law_262 : decode code 262 = .ok (.invokevirtual 26, 3) ∧ 262 + 3 = 265 := ⟨by decide +kernel, rfl⟩
theorem dc_L_law_265 : decode code 265 = .ok (.aload_n 2, 1) ∧ 265 + 1 = 266 := ⟨by decide +kernel, rfl⟩
theorem dc_L_law_266 : decode code 266 = .ok (.aload_n 0, 1) ∧ 266 + 1 = 267 := ⟨by decide +kernel, rfl⟩
theorem dc_L_law_267 : decode code 267 = .ok (.iload_n 3, 1) ∧ 267 + 1 = 268 := ⟨by decide +kernel, rfl⟩
theorem dc_L_law_268 : decode code 268 = .ok (.iconst 1, 1) ∧ 268 + 1 = 269 := ⟨by decide +kernel, rfl⟩
theorem dc_L_law_269 : decode code 269 = .ok (.iadd, 1) ∧ 269 + 1 = 270 := ⟨by decide +kernel, rfl⟩
theorem dc_L_law_270 : decode code 270 = .ok (.iaload, 1) ∧ 270 + 1 = 271 := ⟨by decide +kernel, rfl⟩
theorem dc_L_law_271 : decode code 271 = .ok (.aload_n 0, 1) ∧ 271 + 1 = 272 := ⟨by decide +kernel, rfl⟩
theorem dc_L_law_272 : decode code 272 = .ok (.iload_n 3, 1) ∧ 272 + 1 = 273 := ⟨by decide +kernel, rfl⟩
theorem dc_L_law_273 : decode code 273 = .ok (.iconst 2, 1) ∧ 273 + 1 = 274 := ⟨by decide +kernel, rfl⟩
theorem dc_L_law_274 : decode code 274 = .ok (.iadd, 1) ∧ 274 + 1 = 275 := ⟨by decide +kernel, rfl⟩
theorem dc_L_law_275 : decode code 275 = .ok (.iaload, 1) ∧ 275 + 1 = 276 := ⟨by decide +kernel, rfl⟩
theorem dc_L_law_276 : decode code 276 = .ok (.invokevirtual 29, 3) ∧ 276 + 3 = 279 := ⟨by decide +kernel, rfl⟩
theorem dc_L_law_279 : decode code 279 = .ok (.if_icmp .eq 511, 3) ∧ ((279 : Nat) : Int) + (511) = ((790 : Nat) : Int) ∧ 279 + 3 = 282 := ⟨by decide +kernel, by decide, rfl⟩
theorem dc_L_law_282 : decode code 282 = .ok (.iconst 0, 1) ∧ 282 + 1 = 283 := ⟨by decide +kernel, rfl⟩
theorem dc_L_law_283 : decode code 283 = .ok (.ireturn, 1) := by decide +kernel
theorem dc_L_law_284 : decode code 284 = .ok (.aload_n 1, 1) ∧ 284 + 1 = 285 := ⟨by decide +kernel, rfl⟩
theorem dc_L_law_285 : decode code 285 = .ok (.aload_n 0, 1) ∧ 285 + 1 = 286 := ⟨by decide +kernel, rfl⟩
theorem dc_L_law_286 : decode code 286 = .ok (.iload_n 3, 1) ∧ 286 + 1 = 287 := ⟨by decide +kernel, rfl⟩
theorem dc_L_law_287 : decode code 287 = .ok (.iconst 1, 1) ∧ 287 + 1 = 288 := ⟨by decide +kernel, rfl⟩
theorem dc_L_law_288 : decode code 288 = .ok (.iadd, 1) ∧ 288 + 1 = 289 := ⟨by decide +kernel, rfl⟩
theorem dc_L_law_289 : decode code 289 = .ok (.iaload, 1) ∧ 289 + 1 = 290 := ⟨by decide +kernel, rfl⟩
theorem dc_L_law_290 : decode code 290 = .ok (.invokevirtual 30, 3) ∧ 290 + 3 = 293 := ⟨by decide +kernel, rfl⟩
theorem dc_L_law_293 : decode code 293 = .ok (.aload_n 2, 1) ∧ 293 + 1 = 294 := ⟨by decide +kernel, rfl⟩
theorem dc_L_law_294 : decode code 294 = .ok (.aload_n 0, 1) ∧ 294 + 1 = 295 := ⟨by decide +kernel, rfl⟩
theorem dc_L_law_295 : decode code 295 = .ok (.iload_n 3, 1) ∧ 295 + 1 = 296 := ⟨by decide +kernel, rfl⟩
theorem dc_L_law_296 : decode code 296 = .ok (.iconst 1, 1) ∧ 296 + 1 = 297 := ⟨by decide +kernel, rfl⟩
theorem dc_L_law_297 : decode code 297 = .ok (.iadd, 1) ∧ 297 + 1 = 298 := ⟨by decide +kernel, rfl⟩
theorem dc_L_law_298 : decode code 298 = .ok (.iaload, 1) ∧ 298 + 1 = 299 := ⟨by decide +kernel, rfl⟩
theorem dc_L_law_299 : decode code 299 = .ok (.invokevirtual 34, 3) ∧ 299 + 3 = 302 := ⟨by decide +kernel, rfl⟩
theorem dc_L_law_302 : decode code 302 = .ok (.if_icmp .eq 488, 3) ∧ ((302 : Nat) : Int) + (488) = ((790 : Nat) : Int) ∧ 302 + 3 = 305 := ⟨by decide +kernel, by decide, rfl⟩
theorem dc_L_law_305 : decode code 305 = .ok (.iconst 0, 1) ∧ 305 + 1 = 306 := ⟨by decide +kernel, rfl⟩
theorem dc_L_law_306 : decode code 306 = .ok (.ireturn, 1) := by decide +kernel
theorem dc_L_law_307 : decode code 307 = .ok (.aload_n 1, 1) ∧ 307 + 1 = 308 := ⟨by decide +kernel, rfl⟩
theorem dc_L_law_308 : decode code 308 = .ok (.invokevirtual 35, 3) ∧ 308 + 3 = 311 := ⟨by decide +kernel, rfl⟩
theorem dc_L_law_311 : decode code 311 = .ok (.aload_n 2, 1) ∧ 311 + 1 = 312 := ⟨by decide +kernel, rfl⟩
theorem dc_L_law_312 : decode code 312 = .ok (.invokevirtual 39, 3) ∧ 312 + 3 = 315 := ⟨by decide +kernel, rfl⟩
theorem dc_L_law_315 : decode code 315 = .ok (.if_icmp .eq 475, 3) ∧ ((315 : Nat) : Int) + (475) = ((790 : Nat) : Int) ∧ 315 + 3 = 318 := ⟨by decide +kernel, by decide, rfl⟩
theorem dc_L_law_318 : decode code 318 = .ok (.iconst 0, 1) ∧ 318 + 1 = 319 := ⟨by decide +kernel, rfl⟩
theorem dc_L_law_319 : decode code 319 = .ok (.ireturn, 1) := by decide +kernel
theorem dc_L_law_320 : decode code 320 = .ok (.aload_n 1, 1) ∧ 320 + 1 = 321 := ⟨by decide +kernel, rfl⟩
theorem dc_L_law_321 : decode code 321 = .ok (.invokevirtual 40, 3) ∧ 321 + 3 = 324 := ⟨by decide +kernel, rfl⟩
theorem dc_L_law_324 : decode code 324 = .ok (.aload_n 2, 1) ∧ 324 + 1 = 325 := ⟨by decide +kernel, rfl⟩
theorem dc_L_law_325 : decode code 325 = .ok (.invokevirtual 43, 3) ∧ 325 + 3 = 328 := ⟨by decide +kernel, rfl⟩
theorem dc_L_law_328 : decode code 328 = .ok (.if_icmp .eq 462, 3) ∧ ((328 : Nat) : Int) + (462) = ((790 : Nat) : Int) ∧ 328 + 3 = 331 := ⟨by decide +kernel, by decide, rfl⟩
theorem dc_L_law_331 : decode code 331 = .ok (.iconst 0, 1) ∧ 331 + 1 = 332 := ⟨by decide +kernel, rfl⟩
theorem dc_L_law_332 : decode code 332 = .ok (.ireturn, 1) := by decide +kernel
theorem dc_L_law_333 : decode code 333 = .ok (.aload_n 1, 1) ∧ 333 + 1 = 334 := ⟨by decide +kernel, rfl⟩
theorem dc_L_law_334 : decode code 334 = .ok (.aload_n 0, 1) ∧ 334 + 1 = 335 := ⟨by decide +kernel, rfl⟩
theorem dc_L_law_335 : decode code 335 = .ok (.iload_n 3, 1) ∧ 335 + 1 = 336 := ⟨by decide +kernel, rfl⟩
theorem dc_L_law_336 : decode code 336 = .ok (.iconst 1, 1) ∧ 336 + 1 = 337 := ⟨by decide +kernel, rfl⟩
theorem dc_L_law_337 : decode code 337 = .ok (.iadd, 1) ∧ 337 + 1 = 338 := ⟨by decide +kernel, rfl⟩
theorem dc_L_law_338 : decode code 338 = .ok (.iaload, 1) ∧ 338 + 1 = 339 := ⟨by decide +kernel, rfl⟩
theorem dc_L_law_339 : decode code 339 = .ok (.invokevirtual 44, 3) ∧ 339 + 3 = 342 := ⟨by decide +kernel, rfl⟩
theorem dc_L_law_342 : decode code 342 = .ok (.aload_n 2, 1) ∧ 342 + 1 = 343 := ⟨by decide +kernel, rfl⟩
theorem dc_L_law_343 : decode code 343 = .ok (.aload_n 0, 1) ∧ 343 + 1 = 344 := ⟨by decide +kernel, rfl⟩
theorem dc_L_law_344 : decode code 344 = .ok (.iload_n 3, 1) ∧ 344 + 1 = 345 := ⟨by decide +kernel, rfl⟩
theorem dc_L_law_345 : decode code 345 = .ok (.iconst 1, 1) ∧ 345 + 1 = 346 := ⟨by decide +kernel, rfl⟩
theorem dc_L_law_346 : decode code 346 = .ok (.iadd, 1) ∧ 346 + 1 = 347 := ⟨by decide +kernel, rfl⟩
theorem dc_L_law_347 : decode code 347 = .ok (.iaload, 1) ∧ 347 + 1 = 348 := ⟨by decide +kernel, rfl⟩
theorem dc_L_law_348 : decode code 348 = .ok (.invokevirtual 47, 3) ∧ 348 + 3 = 351 := ⟨by decide +kernel, rfl⟩
theorem dc_L_law_351 : decode code 351 = .ok (.if_icmp .eq 439, 3) ∧ ((351 : Nat) : Int) + (439) = ((790 : Nat) : Int) ∧ 351 + 3 = 354 := ⟨by decide +kernel, by decide, rfl⟩
theorem dc_L_law_354 : decode code 354 = .ok (.iconst 0, 1) ∧ 354 + 1 = 355 := ⟨by decide +kernel, rfl⟩
theorem dc_L_law_355 : decode code 355 = .ok (.ireturn, 1) := by decide +kernel
theorem dc_L_law_356 : decode code 356 = .ok (.aload_n 1, 1) ∧ 356 + 1 = 357 := ⟨by decide +kernel, rfl⟩
theorem dc_L_law_357 : decode code 357 = .ok (.aload_n 0, 1) ∧ 357 + 1 = 358 := ⟨by decide +kernel, rfl⟩
theorem dc_L_law_358 : decode code 358 = .ok (.iload_n 3, 1) ∧ 358 + 1 = 359 := ⟨by decide +kernel, rfl⟩
theorem dc_L_law_359 : decode code 359 = .ok (.iconst 1, 1) ∧ 359 + 1 = 360 := ⟨by decide +kernel, rfl⟩
theorem dc_L_law_360 : decode code 360 = .ok (.iadd, 1) ∧ 360 + 1 = 361 := ⟨by decide +kernel, rfl⟩
theorem dc_L_law_361 : decode code 361 = .ok (.iaload, 1) ∧ 361 + 1 = 362 := ⟨by decide +kernel, rfl⟩
theorem dc_L_law_362 : decode code 362 = .ok (.aload_n 0, 1) ∧ 362 + 1 = 363 := ⟨by decide +kernel, rfl⟩
theorem dc_L_law_363 : decode code 363 = .ok (.iload_n 3, 1) ∧ 363 + 1 = 364 := ⟨by decide +kernel, rfl⟩
theorem dc_L_law_364 : decode code 364 = .ok (.iconst 2, 1) ∧ 364 + 1 = 365 := ⟨by decide +kernel, rfl⟩
theorem dc_L_law_365 : decode code 365 = .ok (.iadd, 1) ∧ 365 + 1 = 366 := ⟨by decide +kernel, rfl⟩
theorem dc_L_law_366 : decode code 366 = .ok (.iaload, 1) ∧ 366 + 1 = 367 := ⟨by decide +kernel, rfl⟩
theorem dc_L_law_367 : decode code 367 = .ok (.invokevirtual 48, 3) ∧ 367 + 3 = 370 := ⟨by decide +kernel, rfl⟩
theorem dc_L_law_370 : decode code 370 = .ok (.aload_n 2, 1) ∧ 370 + 1 = 371 := ⟨by decide +kernel, rfl⟩
theorem dc_L_law_371 : decode code 371 = .ok (.aload_n 0, 1) ∧ 371 + 1 = 372 := ⟨by decide +kernel, rfl⟩
theorem dc_L_law_372 : decode code 372 = .ok (.iload_n 3, 1) ∧ 372 + 1 = 373 := ⟨by decide +kernel, rfl⟩
theorem dc_L_law_373 : decode code 373 = .ok (.iconst 1, 1) ∧ 373 + 1 = 374 := ⟨by decide +kernel, rfl⟩
theorem dc_L_law_374 : decode code 374 = .ok (.iadd, 1) ∧ 374 + 1 = 375 := ⟨by decide +kernel, rfl⟩
theorem dc_L_law_375 : decode code 375 = .ok (.iaload, 1) ∧ 375 + 1 = 376 := ⟨by decide +kernel, rfl⟩
theorem dc_L_law_376 : decode code 376 = .ok (.aload_n 0, 1) ∧ 376 + 1 = 377 := ⟨by decide +kernel, rfl⟩
theorem dc_L_law_377 : decode code 377 = .ok (.iload_n 3, 1) ∧ 377 + 1 = 378 := ⟨by decide +kernel, rfl⟩
theorem dc_L_law_378 : decode code 378 = .ok (.iconst 2, 1) ∧ 378 + 1 = 379 := ⟨by decide +kernel, rfl⟩
theorem dc_L_law_379 : decode code 379 = .ok (.iadd, 1) ∧ 379 + 1 = 380 := ⟨by decide +kernel, rfl⟩
theorem dc_L_law_380 : decode code 380 = .ok (.iaload, 1) ∧ 380 + 1 = 381 := ⟨by decide +kernel, rfl⟩
theorem dc_L_law_381 : decode code 381 = .ok (.invokevirtual 51, 3) ∧ 381 + 3 = 384 := ⟨by decide +kernel, rfl⟩
theorem dc_L_law_384 : decode code 384 = .ok (.if_icmp .eq 406, 3) ∧ ((384 : Nat) : Int) + (406) = ((790 : Nat) : Int) ∧ 384 + 3 = 387 := ⟨by decide +kernel, by decide, rfl⟩
theorem dc_L_law_387 : decode code 387 = .ok (.iconst 0, 1) ∧ 387 + 1 = 388 := ⟨by decide +kernel, rfl⟩
theorem dc_L_law_388 : decode code 388 = .ok (.ireturn, 1) := by decide +kernel
theorem dc_L_law_389 : decode code 389 = .ok (.aload_n 1, 1) ∧ 389 + 1 = 390 := ⟨by decide +kernel, rfl⟩
theorem dc_L_law_390 : decode code 390 = .ok (.aload_n 0, 1) ∧ 390 + 1 = 391 := ⟨by decide +kernel, rfl⟩
theorem dc_L_law_391 : decode code 391 = .ok (.iload_n 3, 1) ∧ 391 + 1 = 392 := ⟨by decide +kernel, rfl⟩
theorem dc_L_law_392 : decode code 392 = .ok (.iconst 1, 1) ∧ 392 + 1 = 393 := ⟨by decide +kernel, rfl⟩
theorem dc_L_law_393 : decode code 393 = .ok (.iadd, 1) ∧ 393 + 1 = 394 := ⟨by decide +kernel, rfl⟩
theorem dc_L_law_394 : decode code 394 = .ok (.iaload, 1) ∧ 394 + 1 = 395 := ⟨by decide +kernel, rfl⟩
theorem dc_L_law_395 : decode code 395 = .ok (.invokevirtual 52, 3) ∧ 395 + 3 = 398 := ⟨by decide +kernel, rfl⟩
theorem dc_L_law_398 : decode code 398 = .ok (.aload_n 2, 1) ∧ 398 + 1 = 399 := ⟨by decide +kernel, rfl⟩
theorem dc_L_law_399 : decode code 399 = .ok (.aload_n 0, 1) ∧ 399 + 1 = 400 := ⟨by decide +kernel, rfl⟩
theorem dc_L_law_400 : decode code 400 = .ok (.iload_n 3, 1) ∧ 400 + 1 = 401 := ⟨by decide +kernel, rfl⟩
theorem dc_L_law_401 : decode code 401 = .ok (.iconst 1, 1) ∧ 401 + 1 = 402 := ⟨by decide +kernel, rfl⟩
theorem dc_L_law_402 : decode code 402 = .ok (.iadd, 1) ∧ 402 + 1 = 403 := ⟨by decide +kernel, rfl⟩
theorem dc_L_law_403 : decode code 403 = .ok (.iaload, 1) ∧ 403 + 1 = 404 := ⟨by decide +kernel, rfl⟩
theorem dc_L_law_404 : decode code 404 = .ok (.invokevirtual 55, 3) ∧ 404 + 3 = 407 := ⟨by decide +kernel, rfl⟩
theorem dc_L_law_407 : decode code 407 = .ok (.if_icmp .eq 383, 3) ∧ ((407 : Nat) : Int) + (383) = ((790 : Nat) : Int) ∧ 407 + 3 = 410 := ⟨by decide +kernel, by decide, rfl⟩
theorem dc_L_law_410 : decode code 410 = .ok (.iconst 0, 1) ∧ 410 + 1 = 411 := ⟨by decide +kernel, rfl⟩
theorem dc_L_law_411 : decode code 411 = .ok (.ireturn, 1) := by decide +kernel
theorem dc_L_law_412 : decode code 412 = .ok (.aload_n 1, 1) ∧ 412 + 1 = 413 := ⟨by decide +kernel, rfl⟩
theorem dc_L_law_413 : decode code 413 = .ok (.aload_n 0, 1) ∧ 413 + 1 = 414 := ⟨by decide +kernel, rfl⟩
theorem dc_L_law_414 : decode code 414 = .ok (.iload_n 3, 1) ∧ 414 + 1 = 415 := ⟨by decide +kernel, rfl⟩
theorem dc_L_law_415 : decode code 415 = .ok (.iconst 1, 1) ∧ 415 + 1 = 416 := ⟨by decide +kernel, rfl⟩
theorem dc_L_law_416 : decode code 416 = .ok (.iadd, 1) ∧ 416 + 1 = 417 := ⟨by decide +kernel, rfl⟩
theorem dc_L_law_417 : decode code 417 = .ok (.iaload, 1) ∧ 417 + 1 = 418 := ⟨by decide +kernel, rfl⟩
theorem dc_L_law_418 : decode code 418 = .ok (.invokevirtual 56, 3) ∧ 418 + 3 = 421 := ⟨by decide +kernel, rfl⟩
theorem dc_L_law_421 : decode code 421 = .ok (.aload_n 2, 1) ∧ 421 + 1 = 422 := ⟨by decide +kernel, rfl⟩
theorem dc_L_law_422 : decode code 422 = .ok (.aload_n 0, 1) ∧ 422 + 1 = 423 := ⟨by decide +kernel, rfl⟩
theorem dc_L_law_423 : decode code 423 = .ok (.iload_n 3, 1) ∧ 423 + 1 = 424 := ⟨by decide +kernel, rfl⟩
theorem dc_L_law_424 : decode code 424 = .ok (.iconst 1, 1) ∧ 424 + 1 = 425 := ⟨by decide +kernel, rfl⟩
theorem dc_L_law_425 : decode code 425 = .ok (.iadd, 1) ∧ 425 + 1 = 426 := ⟨by decide +kernel, rfl⟩
theorem dc_L_law_426 : decode code 426 = .ok (.iaload, 1) ∧ 426 + 1 = 427 := ⟨by decide +kernel, rfl⟩
theorem dc_L_law_427 : decode code 427 = .ok (.invokevirtual 59, 3) ∧ 427 + 3 = 430 := ⟨by decide +kernel, rfl⟩
theorem dc_L_law_430 : decode code 430 = .ok (.if_icmp .eq 360, 3) ∧ ((430 : Nat) : Int) + (360) = ((790 : Nat) : Int) ∧ 430 + 3 = 433 := ⟨by decide +kernel, by decide, rfl⟩
theorem dc_L_law_433 : decode code 433 = .ok (.iconst 0, 1) ∧ 433 + 1 = 434 := ⟨by decide +kernel, rfl⟩
theorem dc_L_law_434 : decode code 434 = .ok (.ireturn, 1) := by decide +kernel
theorem dc_L_law_435 : decode code 435 = .ok (.aload_n 1, 1) ∧ 435 + 1 = 436 := ⟨by decide +kernel, rfl⟩
theorem dc_L_law_436 : decode code 436 = .ok (.aload_n 0, 1) ∧ 436 + 1 = 437 := ⟨by decide +kernel, rfl⟩
theorem dc_L_law_437 : decode code 437 = .ok (.iload_n 3, 1) ∧ 437 + 1 = 438 := ⟨by decide +kernel, rfl⟩
theorem dc_L_law_438 : decode code 438 = .ok (.iconst 1, 1) ∧ 438 + 1 = 439 := ⟨by decide +kernel, rfl⟩
theorem dc_L_law_439 : decode code 439 = .ok (.iadd, 1) ∧ 439 + 1 = 440 := ⟨by decide +kernel, rfl⟩
theorem dc_L_law_440 : decode code 440 = .ok (.iaload, 1) ∧ 440 + 1 = 441 := ⟨by decide +kernel, rfl⟩
theorem dc_L_law_441 : decode code 441 = .ok (.invokevirtual 60, 3) ∧ 441 + 3 = 444 := ⟨by decide +kernel, rfl⟩
theorem dc_L_law_444 : decode code 444 = .ok (.aload_n 2, 1) ∧ 444 + 1 = 445 := ⟨by decide +kernel, rfl⟩
theorem dc_L_law_445 : decode code 445 = .ok (.aload_n 0, 1) ∧ 445 + 1 = 446 := ⟨by decide +kernel, rfl⟩
theorem dc_L_law_446 : decode code 446 = .ok (.iload_n 3, 1) ∧ 446 + 1 = 447 := ⟨by decide +kernel, rfl⟩
theorem dc_L_law_447 : decode code 447 = .ok (.iconst 1, 1) ∧ 447 + 1 = 448 := ⟨by decide +kernel, rfl⟩
theorem dc_L_law_448 : decode code 448 = .ok (.iadd, 1) ∧ 448 + 1 = 449 := ⟨by decide +kernel, rfl⟩
theorem dc_L_law_449 : decode code 449 = .ok (.iaload, 1) ∧ 449 + 1 = 450 := ⟨by decide +kernel, rfl⟩
theorem dc_L_law_450 : decode code 450 = .ok (.invokevirtual 63, 3) ∧ 450 + 3 = 453 := ⟨by decide +kernel, rfl⟩
theorem dc_L_law_453 : decode code 453 = .ok (.if_icmp .eq 337, 3) ∧ ((453 : Nat) : Int) + (337) = ((790 : Nat) : Int) ∧ 453 + 3 = 456 := ⟨by decide +kernel, by decide, rfl⟩
theorem dc_L_law_456 : decode code 456 = .ok (.iconst 0, 1) ∧ 456 + 1 = 457 := ⟨by decide +kernel, rfl⟩
theorem dc_L_law_457 : decode code 457 = .ok (.ireturn, 1) := by decide +kernel
theorem dc_L_law_458 : decode code 458 = .ok (.aload_n 1, 1) ∧ 458 + 1 = 459 := ⟨by decide +kernel, rfl⟩
theorem dc_L_law_459 : decode code 459 = .ok (.aload_n 0, 1) ∧ 459 + 1 = 460 := ⟨by decide +kernel, rfl⟩
theorem dc_L_law_460 : decode code 460 = .ok (.iload_n 3, 1) ∧ 460 + 1 = 461 := ⟨by decide +kernel, rfl⟩
theorem dc_L_law_461 : decode code 461 = .ok (.iconst 1, 1) ∧ 461 + 1 = 462 := ⟨by decide +kernel, rfl⟩
theorem dc_L_law_462 : decode code 462 = .ok (.iadd, 1) ∧ 462 + 1 = 463 := ⟨by decide +kernel, rfl⟩
theorem dc_L_law_463 : decode code 463 = .ok (.iaload, 1) ∧ 463 + 1 = 464 := ⟨by decide +kernel, rfl⟩
theorem dc_L_law_464 : decode code 464 = .ok (.invokevirtual 64, 3) ∧ 464 + 3 = 467 := ⟨by decide +kernel, rfl⟩
theorem dc_L_law_467 : decode code 467 = .ok (.aload_n 2, 1) ∧ 467 + 1 = 468 := ⟨by decide +kernel, rfl⟩
theorem dc_L_law_468 : decode code 468 = .ok (.aload_n 0, 1) ∧ 468 + 1 = 469 := ⟨by decide +kernel, rfl⟩
theorem dc_L_law_469 : decode code 469 = .ok (.iload_n 3, 1) ∧ 469 + 1 = 470 := ⟨by decide +kernel, rfl⟩
theorem dc_L_law_470 : decode code 470 = .ok (.iconst 1, 1) ∧ 470 + 1 = 471 := ⟨by decide +kernel, rfl⟩
theorem dc_L_law_471 : decode code 471 = .ok (.iadd, 1) ∧ 471 + 1 = 472 := ⟨by decide +kernel, rfl⟩
theorem dc_L_law_472 : decode code 472 = .ok (.iaload, 1) ∧ 472 + 1 = 473 := ⟨by decide +kernel, rfl⟩
theorem dc_L_law_473 : decode code 473 = .ok (.invokevirtual 67, 3) ∧ 473 + 3 = 476 := ⟨by decide +kernel, rfl⟩
theorem dc_L_law_476 : decode code 476 = .ok (.if_icmp .eq 314, 3) ∧ ((476 : Nat) : Int) + (314) = ((790 : Nat) : Int) ∧ 476 + 3 = 479 := ⟨by decide +kernel, by decide, rfl⟩
theorem dc_L_law_479 : decode code 479 = .ok (.iconst 0, 1) ∧ 479 + 1 = 480 := ⟨by decide +kernel, rfl⟩
theorem dc_L_law_480 : decode code 480 = .ok (.ireturn, 1) := by decide +kernel
theorem dc_L_law_481 : decode code 481 = .ok (.aload_n 1, 1) ∧ 481 + 1 = 482 := ⟨by decide +kernel, rfl⟩
theorem dc_L_law_482 : decode code 482 = .ok (.aload_n 0, 1) ∧ 482 + 1 = 483 := ⟨by decide +kernel, rfl⟩
theorem dc_L_law_483 : decode code 483 = .ok (.iload_n 3, 1) ∧ 483 + 1 = 484 := ⟨by decide +kernel, rfl⟩
theorem dc_L_law_484 : decode code 484 = .ok (.iconst 1, 1) ∧ 484 + 1 = 485 := ⟨by decide +kernel, rfl⟩
theorem dc_L_law_485 : decode code 485 = .ok (.iadd, 1) ∧ 485 + 1 = 486 := ⟨by decide +kernel, rfl⟩
theorem dc_L_law_486 : decode code 486 = .ok (.iaload, 1) ∧ 486 + 1 = 487 := ⟨by decide +kernel, rfl⟩
theorem dc_L_law_487 : decode code 487 = .ok (.invokevirtual 68, 3) ∧ 487 + 3 = 490 := ⟨by decide +kernel, rfl⟩
theorem dc_L_law_490 : decode code 490 = .ok (.aload_n 2, 1) ∧ 490 + 1 = 491 := ⟨by decide +kernel, rfl⟩
theorem dc_L_law_491 : decode code 491 = .ok (.aload_n 0, 1) ∧ 491 + 1 = 492 := ⟨by decide +kernel, rfl⟩
theorem dc_L_law_492 : decode code 492 = .ok (.iload_n 3, 1) ∧ 492 + 1 = 493 := ⟨by decide +kernel, rfl⟩
theorem dc_L_law_493 : decode code 493 = .ok (.iconst 1, 1) ∧ 493 + 1 = 494 := ⟨by decide +kernel, rfl⟩
theorem dc_L_law_494 : decode code 494 = .ok (.iadd, 1) ∧ 494 + 1 = 495 := ⟨by decide +kernel, rfl⟩
theorem dc_L_law_495 : decode code 495 = .ok (.iaload, 1) ∧ 495 + 1 = 496 := ⟨by decide +kernel, rfl⟩
theorem dc_L_law_496 : decode code 496 = .ok (.invokevirtual 71, 3) ∧ 496 + 3 = 499 := ⟨by decide +kernel, rfl⟩
theorem dc_L_law_499 : decode code 499 = .ok (.if_icmp .eq 291, 3) ∧ ((499 : Nat) : Int) + (291) = ((790 : Nat) : Int) ∧ 499 + 3 = 502 := ⟨by decide +kernel, by decide, rfl⟩
theorem dc_L_law_502 : decode code 502 = .ok (.iconst 0, 1) ∧ 502 + 1 = 503 := ⟨by decide +kernel, rfl⟩
theorem dc_L_law_503 : decode code 503 = .ok (.ireturn, 1) := by decide +kernel
theorem dc_L_law_504 : decode code 504 = .ok (.aload_n 1, 1) ∧ 504 + 1 = 505 := ⟨by decide +kernel, rfl⟩
theorem dc_L_law_505 : decode code 505 = .ok (.aload_n 0, 1) ∧ 505 + 1 = 506 := ⟨by decide +kernel, rfl⟩
theorem dc_L_law_506 : decode code 506 = .ok (.iload_n 3, 1) ∧ 506 + 1 = 507 := ⟨by decide +kernel, rfl⟩
theorem dc_L_law_507 : decode code 507 = .ok (.iconst 1, 1) ∧ 507 + 1 = 508 := ⟨by decide +kernel, rfl⟩
theorem dc_L_law_508 : decode code 508 = .ok (.iadd, 1) ∧ 508 + 1 = 509 := ⟨by decide +kernel, rfl⟩
theorem dc_L_law_509 : decode code 509 = .ok (.iaload, 1) ∧ 509 + 1 = 510 := ⟨by decide +kernel, rfl⟩
theorem dc_L_law_510 : decode code 510 = .ok (.invokevirtual 72, 3) ∧ 510 + 3 = 513 := ⟨by decide +kernel, rfl⟩
theorem dc_L_law_513 : decode code 513 = .ok (.aload_n 2, 1) ∧ 513 + 1 = 514 := ⟨by decide +kernel, rfl⟩
theorem dc_L_law_514 : decode code 514 = .ok (.aload_n 0, 1) ∧ 514 + 1 = 515 := ⟨by decide +kernel, rfl⟩
theorem dc_L_law_515 : decode code 515 = .ok (.iload_n 3, 1) ∧ 515 + 1 = 516 := ⟨by decide +kernel, rfl⟩
theorem dc_L_law_516 : decode code 516 = .ok (.iconst 1, 1) ∧ 516 + 1 = 517 := ⟨by decide +kernel, rfl⟩
theorem dc_L_law_517 : decode code 517 = .ok (.iadd, 1) ∧ 517 + 1 = 518 := ⟨by decide +kernel, rfl⟩
theorem dc_L_law_518 : decode code 518 = .ok (.iaload, 1) ∧ 518 + 1 = 519 := ⟨by decide +kernel, rfl⟩
theorem dc_L_law_519 : decode code 519 = .ok (.invokevirtual 75, 3) ∧ 519 + 3 = 522 := ⟨by decide +kernel, rfl⟩
theorem dc_L_law_522 : decode code 522 = .ok (.if_icmp .eq 268, 3) ∧ ((522 : Nat) : Int) + (268) = ((790 : Nat) : Int) ∧ 522 + 3 = 525 := ⟨by decide +kernel, by decide, rfl⟩
theorem dc_L_law_525 : decode code 525 = .ok (.iconst 0, 1) ∧ 525 + 1 = 526 := ⟨by decide +kernel, rfl⟩
theorem dc_L_law_526 : decode code 526 = .ok (.ireturn, 1) := by decide +kernel
theorem dc_L_law_527 : decode code 527 = .ok (.aload_n 1, 1) ∧ 527 + 1 = 528 := ⟨by decide +kernel, rfl⟩
theorem dc_L_law_528 : decode code 528 = .ok (.invokevirtual 76, 3) ∧ 528 + 3 = 531 := ⟨by decide +kernel, rfl⟩
theorem dc_L_law_531 : decode code 531 = .ok (.aload_n 2, 1) ∧ 531 + 1 = 532 := ⟨by decide +kernel, rfl⟩
theorem dc_L_law_532 : decode code 532 = .ok (.invokevirtual 79, 3) ∧ 532 + 3 = 535 := ⟨by decide +kernel, rfl⟩
theorem dc_L_law_535 : decode code 535 = .ok (.if_icmp .eq 255, 3) ∧ ((535 : Nat) : Int) + (255) = ((790 : Nat) : Int) ∧ 535 + 3 = 538 := ⟨by decide +kernel, by decide, rfl⟩
theorem dc_L_law_538 : decode code 538 = .ok (.iconst 0, 1) ∧ 538 + 1 = 539 := ⟨by decide +kernel, rfl⟩
theorem dc_L_law_539 : decode code 539 = .ok (.ireturn, 1) := by decide +kernel
theorem dc_L_law_540 : decode code 540 = .ok (.aload_n 1, 1) ∧ 540 + 1 = 541 := ⟨by decide +kernel, rfl⟩
theorem dc_L_law_541 : decode code 541 = .ok (.aload_n 0, 1) ∧ 541 + 1 = 542 := ⟨by decide +kernel, rfl⟩
theorem dc_L_law_542 : decode code 542 = .ok (.iload_n 3, 1) ∧ 542 + 1 = 543 := ⟨by decide +kernel, rfl⟩
theorem dc_L_law_543 : decode code 543 = .ok (.iconst 1, 1) ∧ 543 + 1 = 544 := ⟨by decide +kernel, rfl⟩
theorem dc_L_law_544 : decode code 544 = .ok (.iadd, 1) ∧ 544 + 1 = 545 := ⟨by decide +kernel, rfl⟩
theorem dc_L_law_545 : decode code 545 = .ok (.iaload, 1) ∧ 545 + 1 = 546 := ⟨by decide +kernel, rfl⟩
theorem dc_L_law_546 : decode code 546 = .ok (.invokevirtual 80, 3) ∧ 546 + 3 = 549 := ⟨by decide +kernel, rfl⟩
theorem dc_L_law_549 : decode code 549 = .ok (.aload_n 2, 1) ∧ 549 + 1 = 550 := ⟨by decide +kernel, rfl⟩
theorem dc_L_law_550 : decode code 550 = .ok (.aload_n 0, 1) ∧ 550 + 1 = 551 := ⟨by decide +kernel, rfl⟩
theorem dc_L_law_551 : decode code 551 = .ok (.iload_n 3, 1) ∧ 551 + 1 = 552 := ⟨by decide +kernel, rfl⟩
theorem dc_L_law_552 : decode code 552 = .ok (.iconst 1, 1) ∧ 552 + 1 = 553 := ⟨by decide +kernel, rfl⟩
theorem dc_L_law_553 : decode code 553 = .ok (.iadd, 1) ∧ 553 + 1 = 554 := ⟨by decide +kernel, rfl⟩
theorem dc_L_law_554 : decode code 554 = .ok (.iaload, 1) ∧ 554 + 1 = 555 := ⟨by decide +kernel, rfl⟩
theorem dc_L_law_555 : decode code 555 = .ok (.invokevirtual 83, 3) ∧ 555 + 3 = 558 := ⟨by decide +kernel, rfl⟩
theorem dc_L_law_558 : decode code 558 = .ok (.if_icmp .eq 232, 3) ∧ ((558 : Nat) : Int) + (232) = ((790 : Nat) : Int) ∧ 558 + 3 = 561 := ⟨by decide +kernel, by decide, rfl⟩
theorem dc_L_law_561 : decode code 561 = .ok (.iconst 0, 1) ∧ 561 + 1 = 562 := ⟨by decide +kernel, rfl⟩
theorem dc_L_law_562 : decode code 562 = .ok (.ireturn, 1) := by decide +kernel
theorem dc_L_law_563 : decode code 563 = .ok (.aload_n 1, 1) ∧ 563 + 1 = 564 := ⟨by decide +kernel, rfl⟩
theorem dc_L_law_564 : decode code 564 = .ok (.aload_n 0, 1) ∧ 564 + 1 = 565 := ⟨by decide +kernel, rfl⟩
theorem dc_L_law_565 : decode code 565 = .ok (.iload_n 3, 1) ∧ 565 + 1 = 566 := ⟨by decide +kernel, rfl⟩
theorem dc_L_law_566 : decode code 566 = .ok (.iconst 1, 1) ∧ 566 + 1 = 567 := ⟨by decide +kernel, rfl⟩
theorem dc_L_law_567 : decode code 567 = .ok (.iadd, 1) ∧ 567 + 1 = 568 := ⟨by decide +kernel, rfl⟩
theorem dc_L_law_568 : decode code 568 = .ok (.iaload, 1) ∧ 568 + 1 = 569 := ⟨by decide +kernel, rfl⟩
theorem dc_L_law_569 : decode code 569 = .ok (.invokevirtual 84, 3) ∧ 569 + 3 = 572 := ⟨by decide +kernel, rfl⟩
theorem dc_L_law_572 : decode code 572 = .ok (.aload_n 2, 1) ∧ 572 + 1 = 573 := ⟨by decide +kernel, rfl⟩
theorem dc_L_law_573 : decode code 573 = .ok (.aload_n 0, 1) ∧ 573 + 1 = 574 := ⟨by decide +kernel, rfl⟩
theorem dc_L_law_574 : decode code 574 = .ok (.iload_n 3, 1) ∧ 574 + 1 = 575 := ⟨by decide +kernel, rfl⟩
theorem dc_L_law_575 : decode code 575 = .ok (.iconst 1, 1) ∧ 575 + 1 = 576 := ⟨by decide +kernel, rfl⟩
theorem dc_L_law_576 : decode code 576 = .ok (.iadd, 1) ∧ 576 + 1 = 577 := ⟨by decide +kernel, rfl⟩
theorem dc_L_law_577 : decode code 577 = .ok (.iaload, 1) ∧ 577 + 1 = 578 := ⟨by decide +kernel, rfl⟩
theorem dc_L_law_578 : decode code 578 = .ok (.invokevirtual 87, 3) ∧ 578 + 3 = 581 := ⟨by decide +kernel, rfl⟩
theorem dc_L_law_581 : decode code 581 = .ok (.if_icmp .eq 209, 3) ∧ ((581 : Nat) : Int) + (209) = ((790 : Nat) : Int) ∧ 581 + 3 = 584 := ⟨by decide +kernel, by decide, rfl⟩
theorem dc_L_law_584 : decode code 584 = .ok (.iconst 0, 1) ∧ 584 + 1 = 585 := ⟨by decide +kernel, rfl⟩
theorem dc_L_law_585 : decode code 585 = .ok (.ireturn, 1) := by decide +kernel
theorem dc_L_law_586 : decode code 586 = .ok (.aload_n 1, 1) ∧ 586 + 1 = 587 := ⟨by decide +kernel, rfl⟩
theorem dc_L_law_587 : decode code 587 = .ok (.aload_n 0, 1) ∧ 587 + 1 = 588 := ⟨by decide +kernel, rfl⟩
theorem dc_L_law_588 : decode code 588 = .ok (.iload_n 3, 1) ∧ 588 + 1 = 589 := ⟨by decide +kernel, rfl⟩
theorem dc_L_law_589 : decode code 589 = .ok (.iconst 1, 1) ∧ 589 + 1 = 590 := ⟨by decide +kernel, rfl⟩
theorem dc_L_law_590 : decode code 590 = .ok (.iadd, 1) ∧ 590 + 1 = 591 := ⟨by decide +kernel, rfl⟩
theorem dc_L_law_591 : decode code 591 = .ok (.iaload, 1) ∧ 591 + 1 = 592 := ⟨by decide +kernel, rfl⟩
theorem dc_L_law_592 : decode code 592 = .ok (.invokevirtual 88, 3) ∧ 592 + 3 = 595 := ⟨by decide +kernel, rfl⟩
theorem dc_L_law_595 : decode code 595 = .ok (.aload_n 2, 1) ∧ 595 + 1 = 596 := ⟨by decide +kernel, rfl⟩
theorem dc_L_law_596 : decode code 596 = .ok (.aload_n 0, 1) ∧ 596 + 1 = 597 := ⟨by decide +kernel, rfl⟩
theorem dc_L_law_597 : decode code 597 = .ok (.iload_n 3, 1) ∧ 597 + 1 = 598 := ⟨by decide +kernel, rfl⟩
theorem dc_L_law_598 : decode code 598 = .ok (.iconst 1, 1) ∧ 598 + 1 = 599 := ⟨by decide +kernel, rfl⟩
theorem dc_L_law_599 : decode code 599 = .ok (.iadd, 1) ∧ 599 + 1 = 600 := ⟨by decide +kernel, rfl⟩
theorem dc_L_law_600 : decode code 600 = .ok (.iaload, 1) ∧ 600 + 1 = 601 := ⟨by decide +kernel, rfl⟩
theorem dc_L_law_601 : decode code 601 = .ok (.invokevirtual 91, 3) ∧ 601 + 3 = 604 := ⟨by decide +kernel, rfl⟩
theorem dc_L_law_604 : decode code 604 = .ok (.if_icmp .eq 186, 3) ∧ ((604 : Nat) : Int) + (186) = ((790 : Nat) : Int) ∧ 604 + 3 = 607 := ⟨by decide +kernel, by decide, rfl⟩
theorem dc_L_law_607 : decode code 607 = .ok (.iconst 0, 1) ∧ 607 + 1 = 608 := ⟨by decide +kernel, rfl⟩
theorem dc_L_law_608 : decode code 608 = .ok (.ireturn, 1) := by decide +kernel
theorem dc_L_law_609 : decode code 609 = .ok (.aload_n 1, 1) ∧ 609 + 1 = 610 := ⟨by decide +kernel, rfl⟩
theorem dc_L_law_610 : decode code 610 = .ok (.aload_n 0, 1) ∧ 610 + 1 = 611 := ⟨by decide +kernel, rfl⟩
theorem dc_L_law_611 : decode code 611 = .ok (.iload_n 3, 1) ∧ 611 + 1 = 612 := ⟨by decide +kernel, rfl⟩
theorem dc_L_law_612 : decode code 612 = .ok (.iconst 1, 1) ∧ 612 + 1 = 613 := ⟨by decide +kernel, rfl⟩
theorem dc_L_law_613 : decode code 613 = .ok (.iadd, 1) ∧ 613 + 1 = 614 := ⟨by decide +kernel, rfl⟩
theorem dc_L_law_614 : decode code 614 = .ok (.iaload, 1) ∧ 614 + 1 = 615 := ⟨by decide +kernel, rfl⟩
theorem dc_L_law_615 : decode code 615 = .ok (.invokevirtual 92, 3) ∧ 615 + 3 = 618 := ⟨by decide +kernel, rfl⟩
theorem dc_L_law_618 : decode code 618 = .ok (.aload_n 2, 1) ∧ 618 + 1 = 619 := ⟨by decide +kernel, rfl⟩
theorem dc_L_law_619 : decode code 619 = .ok (.aload_n 0, 1) ∧ 619 + 1 = 620 := ⟨by decide +kernel, rfl⟩
theorem dc_L_law_620 : decode code 620 = .ok (.iload_n 3, 1) ∧ 620 + 1 = 621 := ⟨by decide +kernel, rfl⟩
theorem dc_L_law_621 : decode code 621 = .ok (.iconst 1, 1) ∧ 621 + 1 = 622 := ⟨by decide +kernel, rfl⟩
theorem dc_L_law_622 : decode code 622 = .ok (.iadd, 1) ∧ 622 + 1 = 623 := ⟨by decide +kernel, rfl⟩
theorem dc_L_law_623 : decode code 623 = .ok (.iaload, 1) ∧ 623 + 1 = 624 := ⟨by decide +kernel, rfl⟩
theorem dc_L_law_624 : decode code 624 = .ok (.invokevirtual 95, 3) ∧ 624 + 3 = 627 := ⟨by decide +kernel, rfl⟩
theorem dc_L_law_627 : decode code 627 = .ok (.if_icmp .eq 163, 3) ∧ ((627 : Nat) : Int) + (163) = ((790 : Nat) : Int) ∧ 627 + 3 = 630 := ⟨by decide +kernel, by decide, rfl⟩
theorem dc_L_law_630 : decode code 630 = .ok (.iconst 0, 1) ∧ 630 + 1 = 631 := ⟨by decide +kernel, rfl⟩
theorem dc_L_law_631 : decode code 631 = .ok (.ireturn, 1) := by decide +kernel
theorem dc_L_law_632 : decode code 632 = .ok (.aload_n 1, 1) ∧ 632 + 1 = 633 := ⟨by decide +kernel, rfl⟩
theorem dc_L_law_633 : decode code 633 = .ok (.aload_n 0, 1) ∧ 633 + 1 = 634 := ⟨by decide +kernel, rfl⟩
theorem dc_L_law_634 : decode code 634 = .ok (.iload_n 3, 1) ∧ 634 + 1 = 635 := ⟨by decide +kernel, rfl⟩
theorem dc_L_law_635 : decode code 635 = .ok (.iconst 1, 1) ∧ 635 + 1 = 636 := ⟨by decide +kernel, rfl⟩
theorem dc_L_law_636 : decode code 636 = .ok (.iadd, 1) ∧ 636 + 1 = 637 := ⟨by decide +kernel, rfl⟩
theorem dc_L_law_637 : decode code 637 = .ok (.iaload, 1) ∧ 637 + 1 = 638 := ⟨by decide +kernel, rfl⟩
theorem dc_L_law_638 : decode code 638 = .ok (.aload_n 0, 1) ∧ 638 + 1 = 639 := ⟨by decide +kernel, rfl⟩
theorem dc_L_law_639 : decode code 639 = .ok (.iload_n 3, 1) ∧ 639 + 1 = 640 := ⟨by decide +kernel, rfl⟩
theorem dc_L_law_640 : decode code 640 = .ok (.iconst 2, 1) ∧ 640 + 1 = 641 := ⟨by decide +kernel, rfl⟩
theorem dc_L_law_641 : decode code 641 = .ok (.iadd, 1) ∧ 641 + 1 = 642 := ⟨by decide +kernel, rfl⟩
theorem dc_L_law_642 : decode code 642 = .ok (.iaload, 1) ∧ 642 + 1 = 643 := ⟨by decide +kernel, rfl⟩
theorem dc_L_law_643 : decode code 643 = .ok (.invokevirtual 96, 3) ∧ 643 + 3 = 646 := ⟨by decide +kernel, rfl⟩
theorem dc_L_law_646 : decode code 646 = .ok (.aload_n 2, 1) ∧ 646 + 1 = 647 := ⟨by decide +kernel, rfl⟩
theorem dc_L_law_647 : decode code 647 = .ok (.aload_n 0, 1) ∧ 647 + 1 = 648 := ⟨by decide +kernel, rfl⟩
theorem dc_L_law_648 : decode code 648 = .ok (.iload_n 3, 1) ∧ 648 + 1 = 649 := ⟨by decide +kernel, rfl⟩
theorem dc_L_law_649 : decode code 649 = .ok (.iconst 1, 1) ∧ 649 + 1 = 650 := ⟨by decide +kernel, rfl⟩
theorem dc_L_law_650 : decode code 650 = .ok (.iadd, 1) ∧ 650 + 1 = 651 := ⟨by decide +kernel, rfl⟩
theorem dc_L_law_651 : decode code 651 = .ok (.iaload, 1) ∧ 651 + 1 = 652 := ⟨by decide +kernel, rfl⟩
theorem dc_L_law_652 : decode code 652 = .ok (.aload_n 0, 1) ∧ 652 + 1 = 653 := ⟨by decide +kernel, rfl⟩
theorem dc_L_law_653 : decode code 653 = .ok (.iload_n 3, 1) ∧ 653 + 1 = 654 := ⟨by decide +kernel, rfl⟩
theorem dc_L_law_654 : decode code 654 = .ok (.iconst 2, 1) ∧ 654 + 1 = 655 := ⟨by decide +kernel, rfl⟩
theorem dc_L_law_655 : decode code 655 = .ok (.iadd, 1) ∧ 655 + 1 = 656 := ⟨by decide +kernel, rfl⟩
theorem dc_L_law_656 : decode code 656 = .ok (.iaload, 1) ∧ 656 + 1 = 657 := ⟨by decide +kernel, rfl⟩
theorem dc_L_law_657 : decode code 657 = .ok (.invokevirtual 99, 3) ∧ 657 + 3 = 660 := ⟨by decide +kernel, rfl⟩
theorem dc_L_law_660 : decode code 660 = .ok (.if_icmp .eq 130, 3) ∧ ((660 : Nat) : Int) + (130) = ((790 : Nat) : Int) ∧ 660 + 3 = 663 := ⟨by decide +kernel, by decide, rfl⟩
theorem dc_L_law_663 : decode code 663 = .ok (.iconst 0, 1) ∧ 663 + 1 = 664 := ⟨by decide +kernel, rfl⟩
theorem dc_L_law_664 : decode code 664 = .ok (.ireturn, 1) := by decide +kernel
theorem dc_L_law_665 : decode code 665 = .ok (.aload_n 1, 1) ∧ 665 + 1 = 666 := ⟨by decide +kernel, rfl⟩
theorem dc_L_law_666 : decode code 666 = .ok (.aload_n 0, 1) ∧ 666 + 1 = 667 := ⟨by decide +kernel, rfl⟩
theorem dc_L_law_667 : decode code 667 = .ok (.iload_n 3, 1) ∧ 667 + 1 = 668 := ⟨by decide +kernel, rfl⟩
theorem dc_L_law_668 : decode code 668 = .ok (.iconst 1, 1) ∧ 668 + 1 = 669 := ⟨by decide +kernel, rfl⟩
theorem dc_L_law_669 : decode code 669 = .ok (.iadd, 1) ∧ 669 + 1 = 670 := ⟨by decide +kernel, rfl⟩
theorem dc_L_law_670 : decode code 670 = .ok (.iaload, 1) ∧ 670 + 1 = 671 := ⟨by decide +kernel, rfl⟩
theorem dc_L_law_671 : decode code 671 = .ok (.invokevirtual 100, 3) ∧ 671 + 3 = 674 := ⟨by decide +kernel, rfl⟩
theorem dc_L_law_674 : decode code 674 = .ok (.aload_n 2, 1) ∧ 674 + 1 = 675 := ⟨by decide +kernel, rfl⟩
theorem dc_L_law_675 : decode code 675 = .ok (.aload_n 0, 1) ∧ 675 + 1 = 676 := ⟨by decide +kernel, rfl⟩
theorem dc_L_law_676 : decode code 676 = .ok (.iload_n 3, 1) ∧ 676 + 1 = 677 := ⟨by decide +kernel, rfl⟩
theorem dc_L_law_677 : decode code 677 = .ok (.iconst 1, 1) ∧ 677 + 1 = 678 := ⟨by decide +kernel, rfl⟩
theorem dc_L_law_678 : decode code 678 = .ok (.iadd, 1) ∧ 678 + 1 = 679 := ⟨by decide +kernel, rfl⟩
theorem dc_L_law_679 : decode code 679 = .ok (.iaload, 1) ∧ 679 + 1 = 680 := ⟨by decide +kernel, rfl⟩
theorem dc_L_law_680 : decode code 680 = .ok (.invokevirtual 103, 3) ∧ 680 + 3 = 683 := ⟨by decide +kernel, rfl⟩
theorem dc_L_law_683 : decode code 683 = .ok (.if_icmp .eq 107, 3) ∧ ((683 : Nat) : Int) + (107) = ((790 : Nat) : Int) ∧ 683 + 3 = 686 := ⟨by decide +kernel, by decide, rfl⟩
theorem dc_L_law_686 : decode code 686 = .ok (.iconst 0, 1) ∧ 686 + 1 = 687 := ⟨by decide +kernel, rfl⟩
theorem dc_L_law_687 : decode code 687 = .ok (.ireturn, 1) := by decide +kernel
theorem dc_L_law_688 : decode code 688 = .ok (.aload_n 1, 1) ∧ 688 + 1 = 689 := ⟨by decide +kernel, rfl⟩
theorem dc_L_law_689 : decode code 689 = .ok (.aload_n 0, 1) ∧ 689 + 1 = 690 := ⟨by decide +kernel, rfl⟩
theorem dc_L_law_690 : decode code 690 = .ok (.iload_n 3, 1) ∧ 690 + 1 = 691 := ⟨by decide +kernel, rfl⟩
theorem dc_L_law_691 : decode code 691 = .ok (.iconst 1, 1) ∧ 691 + 1 = 692 := ⟨by decide +kernel, rfl⟩
theorem dc_L_law_692 : decode code 692 = .ok (.iadd, 1) ∧ 692 + 1 = 693 := ⟨by decide +kernel, rfl⟩
theorem dc_L_law_693 : decode code 693 = .ok (.iaload, 1) ∧ 693 + 1 = 694 := ⟨by decide +kernel, rfl⟩
theorem dc_L_law_694 : decode code 694 = .ok (.invokevirtual 104, 3) ∧ 694 + 3 = 697 := ⟨by decide +kernel, rfl⟩
theorem dc_L_law_697 : decode code 697 = .ok (.aload_n 2, 1) ∧ 697 + 1 = 698 := ⟨by decide +kernel, rfl⟩
theorem dc_L_law_698 : decode code 698 = .ok (.aload_n 0, 1) ∧ 698 + 1 = 699 := ⟨by decide +kernel, rfl⟩
theorem dc_L_law_699 : decode code 699 = .ok (.iload_n 3, 1) ∧ 699 + 1 = 700 := ⟨by decide +kernel, rfl⟩
theorem dc_L_law_700 : decode code 700 = .ok (.iconst 1, 1) ∧ 700 + 1 = 701 := ⟨by decide +kernel, rfl⟩
theorem dc_L_law_701 : decode code 701 = .ok (.iadd, 1) ∧ 701 + 1 = 702 := ⟨by decide +kernel, rfl⟩
theorem dc_L_law_702 : decode code 702 = .ok (.iaload, 1) ∧ 702 + 1 = 703 := ⟨by decide +kernel, rfl⟩
theorem dc_L_law_703 : decode code 703 = .ok (.invokevirtual 107, 3) ∧ 703 + 3 = 706 := ⟨by decide +kernel, rfl⟩
theorem dc_L_law_706 : decode code 706 = .ok (.if_icmp .eq 84, 3) ∧ ((706 : Nat) : Int) + (84) = ((790 : Nat) : Int) ∧ 706 + 3 = 709 := ⟨by decide +kernel, by decide, rfl⟩
theorem dc_L_law_709 : decode code 709 = .ok (.iconst 0, 1) ∧ 709 + 1 = 710 := ⟨by decide +kernel, rfl⟩
theorem dc_L_law_710 : decode code 710 = .ok (.ireturn, 1) := by decide +kernel
theorem dc_L_law_711 : decode code 711 = .ok (.aload_n 1, 1) ∧ 711 + 1 = 712 := ⟨by decide +kernel, rfl⟩
theorem dc_L_law_712 : decode code 712 = .ok (.aload_n 0, 1) ∧ 712 + 1 = 713 := ⟨by decide +kernel, rfl⟩
theorem dc_L_law_713 : decode code 713 = .ok (.iload_n 3, 1) ∧ 713 + 1 = 714 := ⟨by decide +kernel, rfl⟩
theorem dc_L_law_714 : decode code 714 = .ok (.iconst 1, 1) ∧ 714 + 1 = 715 := ⟨by decide +kernel, rfl⟩
theorem dc_L_law_715 : decode code 715 = .ok (.iadd, 1) ∧ 715 + 1 = 716 := ⟨by decide +kernel, rfl⟩
theorem dc_L_law_716 : decode code 716 = .ok (.iaload, 1) ∧ 716 + 1 = 717 := ⟨by decide +kernel, rfl⟩
theorem dc_L_law_717 : decode code 717 = .ok (.aload_n 0, 1) ∧ 717 + 1 = 718 := ⟨by decide +kernel, rfl⟩
theorem dc_L_law_718 : decode code 718 = .ok (.iload_n 3, 1) ∧ 718 + 1 = 719 := ⟨by decide +kernel, rfl⟩
theorem dc_L_law_719 : decode code 719 = .ok (.iconst 2, 1) ∧ 719 + 1 = 720 := ⟨by decide +kernel, rfl⟩
theorem dc_L_law_720 : decode code 720 = .ok (.iadd, 1) ∧ 720 + 1 = 721 := ⟨by decide +kernel, rfl⟩
theorem dc_L_law_721 : decode code 721 = .ok (.iaload, 1) ∧ 721 + 1 = 722 := ⟨by decide +kernel, rfl⟩
theorem dc_L_law_722 : decode code 722 = .ok (.invokevirtual 108, 3) ∧ 722 + 3 = 725 := ⟨by decide +kernel, rfl⟩
theorem dc_L_law_725 : decode code 725 = .ok (.aload_n 2, 1) ∧ 725 + 1 = 726 := ⟨by decide +kernel, rfl⟩
theorem dc_L_law_726 : decode code 726 = .ok (.aload_n 0, 1) ∧ 726 + 1 = 727 := ⟨by decide +kernel, rfl⟩
theorem dc_L_law_727 : decode code 727 = .ok (.iload_n 3, 1) ∧ 727 + 1 = 728 := ⟨by decide +kernel, rfl⟩
theorem dc_L_law_728 : decode code 728 = .ok (.iconst 1, 1) ∧ 728 + 1 = 729 := ⟨by decide +kernel, rfl⟩
theorem dc_L_law_729 : decode code 729 = .ok (.iadd, 1) ∧ 729 + 1 = 730 := ⟨by decide +kernel, rfl⟩
theorem dc_L_law_730 : decode code 730 = .ok (.iaload, 1) ∧ 730 + 1 = 731 := ⟨by decide +kernel, rfl⟩
theorem dc_L_law_731 : decode code 731 = .ok (.aload_n 0, 1) ∧ 731 + 1 = 732 := ⟨by decide +kernel, rfl⟩
theorem dc_L_law_732 : decode code 732 = .ok (.iload_n 3, 1) ∧ 732 + 1 = 733 := ⟨by decide +kernel, rfl⟩
theorem dc_L_law_733 : decode code 733 = .ok (.iconst 2, 1) ∧ 733 + 1 = 734 := ⟨by decide +kernel, rfl⟩
theorem dc_L_law_734 : decode code 734 = .ok (.iadd, 1) ∧ 734 + 1 = 735 := ⟨by decide +kernel, rfl⟩
theorem dc_L_law_735 : decode code 735 = .ok (.iaload, 1) ∧ 735 + 1 = 736 := ⟨by decide +kernel, rfl⟩
theorem dc_L_law_736 : decode code 736 = .ok (.invokevirtual 111, 3) ∧ 736 + 3 = 739 := ⟨by decide +kernel, rfl⟩
theorem dc_L_law_739 : decode code 739 = .ok (.if_icmp .eq 51, 3) ∧ ((739 : Nat) : Int) + (51) = ((790 : Nat) : Int) ∧ 739 + 3 = 742 := ⟨by decide +kernel, by decide, rfl⟩
theorem dc_L_law_742 : decode code 742 = .ok (.iconst 0, 1) ∧ 742 + 1 = 743 := ⟨by decide +kernel, rfl⟩
theorem dc_L_law_743 : decode code 743 = .ok (.ireturn, 1) := by decide +kernel
theorem dc_L_law_744 : decode code 744 = .ok (.aload_n 1, 1) ∧ 744 + 1 = 745 := ⟨by decide +kernel, rfl⟩
theorem dc_L_law_745 : decode code 745 = .ok (.aload_n 0, 1) ∧ 745 + 1 = 746 := ⟨by decide +kernel, rfl⟩
theorem dc_L_law_746 : decode code 746 = .ok (.iload_n 3, 1) ∧ 746 + 1 = 747 := ⟨by decide +kernel, rfl⟩
theorem dc_L_law_747 : decode code 747 = .ok (.iconst 1, 1) ∧ 747 + 1 = 748 := ⟨by decide +kernel, rfl⟩
theorem dc_L_law_748 : decode code 748 = .ok (.iadd, 1) ∧ 748 + 1 = 749 := ⟨by decide +kernel, rfl⟩
theorem dc_L_law_749 : decode code 749 = .ok (.iaload, 1) ∧ 749 + 1 = 750 := ⟨by decide +kernel, rfl⟩
theorem dc_L_law_750 : decode code 750 = .ok (.invokevirtual 112, 3) ∧ 750 + 3 = 753 := ⟨by decide +kernel, rfl⟩
theorem dc_L_law_753 : decode code 753 = .ok (.aload_n 2, 1) ∧ 753 + 1 = 754 := ⟨by decide +kernel, rfl⟩
theorem dc_L_law_754 : decode code 754 = .ok (.aload_n 0, 1) ∧ 754 + 1 = 755 := ⟨by decide +kernel, rfl⟩
theorem dc_L_law_755 : decode code 755 = .ok (.iload_n 3, 1) ∧ 755 + 1 = 756 := ⟨by decide +kernel, rfl⟩
theorem dc_L_law_756 : decode code 756 = .ok (.iconst 1, 1) ∧ 756 + 1 = 757 := ⟨by decide +kernel, rfl⟩
theorem dc_L_law_757 : decode code 757 = .ok (.iadd, 1) ∧ 757 + 1 = 758 := ⟨by decide +kernel, rfl⟩
theorem dc_L_law_758 : decode code 758 = .ok (.iaload, 1) ∧ 758 + 1 = 759 := ⟨by decide +kernel, rfl⟩
theorem dc_L_law_759 : decode code 759 = .ok (.invokevirtual 115, 3) ∧ 759 + 3 = 762 := ⟨by decide +kernel, rfl⟩
theorem dc_L_law_762 : decode code 762 = .ok (.if_icmp .eq 28, 3) ∧ ((762 : Nat) : Int) + (28) = ((790 : Nat) : Int) ∧ 762 + 3 = 765 := ⟨by decide +kernel, by decide, rfl⟩
theorem dc_L_law_765 : decode code 765 = .ok (.iconst 0, 1) ∧ 765 + 1 = 766 := ⟨by decide +kernel, rfl⟩
theorem dc_L_law_766 : decode code 766 = .ok (.ireturn, 1) := by decide +kernel
theorem dc_L_law_767 : decode code 767 = .ok (.aload_n 1, 1) ∧ 767 + 1 = 768 := ⟨by decide +kernel, rfl⟩
theorem dc_L_law_768 : decode code 768 = .ok (.aload_n 0, 1) ∧ 768 + 1 = 769 := ⟨by decide +kernel, rfl⟩
theorem dc_L_law_769 : decode code 769 = .ok (.iload_n 3, 1) ∧ 769 + 1 = 770 := ⟨by decide +kernel, rfl⟩
theorem dc_L_law_770 : decode code 770 = .ok (.iconst 1, 1) ∧ 770 + 1 = 771 := ⟨by decide +kernel, rfl⟩
theorem dc_L_law_771 : decode code 771 = .ok (.iadd, 1) ∧ 771 + 1 = 772 := ⟨by decide +kernel, rfl⟩
theorem dc_L_law_772 : decode code 772 = .ok (.iaload, 1) ∧ 772 + 1 = 773 := ⟨by decide +kernel, rfl⟩
theorem dc_L_law_773 : decode code 773 = .ok (.invokevirtual 116, 3) ∧ 773 + 3 = 776 := ⟨by decide +kernel, rfl⟩
theorem dc_L_law_776 : decode code 776 = .ok (.aload_n 2, 1) ∧ 776 + 1 = 777 := ⟨by decide +kernel, rfl⟩
theorem dc_L_law_777 : decode code 777 = .ok (.aload_n 0, 1) ∧ 777 + 1 = 778 := ⟨by decide +kernel, rfl⟩
theorem dc_L_law_778 : decode code 778 = .ok (.iload_n 3, 1) ∧ 778 + 1 = 779 := ⟨by decide +kernel, rfl⟩
theorem dc_L_law_779 : decode code 779 = .ok (.iconst 1, 1) ∧ 779 + 1 = 780 := ⟨by decide +kernel, rfl⟩
theorem dc_L_law_780 : decode code 780 = .ok (.iadd, 1) ∧ 780 + 1 = 781 := ⟨by decide +kernel, rfl⟩
theorem dc_L_law_781 : decode code 781 = .ok (.iaload, 1) ∧ 781 + 1 = 782 := ⟨by decide +kernel, rfl⟩
theorem dc_L_law_782 : decode code 782 = .ok (.invokevirtual 119, 3) ∧ 782 + 3 = 785 := ⟨by decide +kernel, rfl⟩
theorem dc_L_law_785 : decode code 785 = .ok (.if_icmp .eq 5, 3) ∧ ((785 : Nat) : Int) + (5) = ((790 : Nat) : Int) ∧ 785 + 3 = 788 := ⟨by decide +kernel, by decide, rfl⟩
theorem dc_L_law_788 : decode code 788 = .ok (.iconst 0, 1) ∧ 788 + 1 = 789 := ⟨by decide +kernel, rfl⟩
theorem dc_L_law_789 : decode code 789 = .ok (.ireturn, 1) := by decide +kernel
theorem dc_L_law_790 : decode code 790 = .ok (.iinc 3 3, 3) ∧ 790 + 3 = 793 := ⟨by decide +kernel, rfl⟩
theorem dc_L_law_793 : decode code 793 = .ok (.goto (-775), 3) ∧ ((793 : Nat) : Int) + (-775) = ((18 : Nat) : Int) := ⟨by decide +kernel, by decide⟩
theorem dc_L_law_796 : decode code 796 = .ok (.iconst 1, 1) ∧ 796 + 1 = 797 := ⟨by decide +kernel, rfl⟩
theorem dc_L_law_797 : decode code 797 = .ok (.ireturn, 1) := by decide +kernel
end
section
/-! leaves: the library's whole numbers, rows of numbers -/
section RULES2
variable {Γ : cx_T} {K : mt_K} {Q : Option Value → mm_T → Prop} {cs sl pc nx : Nat} {L : List (Option Value)} {st : List Value} {τ : Nat × (Nat → sh_T)} {ν : Nat → Nat → Int32}
theorem gx_geti {idx ci k a : Nat} {fl : List (Option (Option Nat))} (hd : decode K.2.1 pc = .ok (.getfield idx, 3) ∧ pc + 3 = nx) (hf : lf_P K.1.cls idx ci k) (hs : τ.2 a = .inr (.inr (ci, fl))) (hk : fl[k]? = some none) (kk : gg_P Γ K Q cs sl nx L (.int (ν a k) :: st) (τ, ν)) : gg_P Γ K Q cs sl pc L (.ref a :: st) (τ, ν) := gg_geti hd hf hs hk kk
theorem gx_iald {a n : Nat} {i : Int32} (hd : decode K.2.1 pc = .ok (.iaload, 1) ∧ pc + 1 = nx) (hs : τ.2 a = .inl (0, n)) (hin : vp_in i n) (kk : gg_P Γ K Q cs sl nx L (.int (ν a i.toNatClampNeg) :: st) (τ, ν)) : gg_P Γ K Q cs sl pc L (.int i :: .ref a :: st) (τ, ν) := gg_iald hd hs hin kk
theorem gx_iald2 {a n : Nat} {i : Int32} (hd : decode K.2.1 pc = .ok (.iaload, 1) ∧ pc + 1 = nx) (hs : τ.2 a = .inl (2, n)) (hin : vp_in i n) (kk : gg_P Γ K Q cs sl nx L (.int (ν a i.toNatClampNeg) :: st) (τ, ν)) : gg_P Γ K Q cs sl pc L (.int i :: .ref a :: st) (τ, ν) := gg_iald2 hd hs hin kk
theorem gx_bald {a n : Nat} {i : Int32} (hd : decode K.2.1 pc = .ok (.baload, 1) ∧ pc + 1 = nx) (hs : τ.2 a = .inl (1, n)) (hin : vp_in i n) (kk : gg_P Γ K Q cs sl nx L (.int (ν a i.toNatClampNeg) :: st) (τ, ν)) : gg_P Γ K Q cs sl pc L (.int i :: .ref a :: st) (τ, ν) := gg_bald hd hs hin kk
/-- an int of an array at a place that is known as a number -/
theorem gx_ialdK {a n k : Nat} {i : Int32} (hd : decode K.2.1 pc = .ok (.iaload, 1) ∧ pc + 1 = nx) (hs : τ.2 a = .inl (0, n)) (hi : i = nI k ∧ k < n ∧ n < 2 ^ 31) (kk : gg_P Γ K Q cs sl nx L (.int (ν a k) :: st) (τ, ν)) : gg_P Γ K Q cs sl pc L (.int i :: .ref a :: st) (τ, ν) := by
  obtain ⟨rfl, h1, h2⟩ := hi
  refine gg_iald hd hs (vp_in_nI h1 h2) ?_
  rw [nI_clamp (by omega)]
  exact kk
theorem gx_iastK {a n k : Nat} {i v : Int32} (hd : decode K.2.1 pc = .ok (.iastore, 1) ∧ pc + 1 = nx) (hs : τ.2 a = .inl (0, n)) (hi : i = nI k ∧ k < n ∧ n < 2 ^ 31) (kk : gg_P Γ K Q cs sl nx L st (τ, up_2 ν a k v)) : gg_P Γ K Q cs sl pc L (.int v :: .int i :: .ref a :: st) (τ, ν) := by
  obtain ⟨rfl, h1, h2⟩ := hi
  refine gg_iast hd hs (vp_in_nI h1 h2) ?_
  rw [nI_clamp (by omega)]
  exact kk
/-- the top of the stack under another name -/
theorem gx_top {x y : Int32} (h : x = y) (kk : gg_P Γ K Q cs sl pc L (.int y :: st) (τ, ν)) : gg_P Γ K Q cs sl pc L (.int x :: st) (τ, ν) := by rw [h]; exact kk
end RULES2
/-- the kit's entry of a method, for a method of a class of the library that the machine runs as bytecode -/
theorem met_plain {l : Launch} {y : MethodName} {ws ws' : List Cond} {rm : Room} {Pc : Array Value → State → Prop} {Qc : Array Value → State → Outcome → State → Prop} {mc ms : Nat} {free : Addr → Prop} {cc : ByteArray} {maxL : Nat} {ret : Option FieldType}
    (hy : plainFor y = true) (hw : ws = Cond.code y cc maxL ret :: ws')
    (body : ∀ p e s m args below meth c s₁, BodyLoose p l y (headSpec ws rm) cc maxL ret e s m args below meth c s₁ → c.maxLocals = maxL → Pc args s →
      W p l e (headSpec ws rm).room s m args below meth c s.heap [] 0 0 (MQ below Qc args s mc ms free) (entryFrame m args maxL)) : Met l y ws rm Pc Qc mc ms free := by
  refine MetFree.of_bodySF (code := cc) (maxLocals := maxL) (ret := ret) hy (fun args s m h hn => ?_) (fun p e s m args below meth c s₁ B hml hP _ => ?_)
  · obtain ⟨meth, c, h1, h2, h3, h4, h5, h6, -, -⟩ := Cond.code_spec hn (atoms_spec (ws := ws) h _ (by rw [hw]; exact List.mem_cons_self))
    exact ⟨meth, c, h1, h2, h3, h4, h5, h6⟩
  · obtain ⟨t, a1, o, b1, b2, b3⟩ := body p e s m args below meth c s₁ B hml hP s₁ (by rw [B.state]; rfl) (Stand.of_body B)
    exact ⟨t, o, a1, b1, b2, b3⟩
set_option maxHeartbeats 1000000 in
theorem mt_ofF {Γ : cx_T} {K : mt_K} {av : List Value} {μ : mm_T} {Q : Option Value → mm_T → Prop} {L : List (Option Value)} (hy : plainFor K.1 = true) (hc : ∀ v ∈ av, v.category = 1) (hn : av.length ≤ K.2.2.1) (hL : ∀ (i : Nat) (v : Value), L[i]? = some (some v) → av[i]? = some v) (h : gg_P Γ K Q 0 0 0 L [] μ) : mt_P Γ K av μ Q := by
  refine met_plain (cc := K.2.1) (maxL := K.2.2.1) (ret := K.2.2.2.1) (ws' := wd_all) hy rfl ?_
  intro p e s m args below meth c s₁ B hml hv
  obtain ⟨rfl, hW, hE⟩ := hv
  have hts := atoms_spec (ws := wd_K K) B.pre
  have hlocks := B.notSynchronized
  rw [lg_entry_eq]
  have hlen : (lg_sl av).length ≤ K.2.2.1 := by rw [lg_sl_len av hc]; exact hn
  have hl := lv_entry av (n := K.2.2.1) hlen
  have hlc : lc_P ((lg_sl av ++ List.replicate (K.2.2.1 - (lg_sl av).length) Slot.unset).toArray) K.2.2.1 L := by
    refine ⟨hl.1, hl.2.1, fun i v hi => ?_⟩
    have h1 := hL i v hi
    have h2 := lc_args av 0 hc i v h1
    rw [Nat.zero_add] at h2
    exact ⟨hl.2.2 (i, v) h2, hc v (List.mem_of_getElem? h1)⟩
  refine h p e s m _ below meth c _ s.heap [] _ ⟨B.exec, B.bytes, B.returns, hml, findClass_of_methodNamed B.named, fun w hw => hts w (List.mem_cons_of_mem _ hw), (name_of_methodNamed B.named B.method).1, hE⟩ ?_ hW va_S.rf hlc (by rw [hW.2.2.2.1]; exact hW.2.2.2.2.1)
  intro pc ls v H locs μ' hrt hW' hS hQ
  have hq : ∀ t : State, t.heap = H → s.WarmedH t.vm → (∃ (v' : Option Value) (μ'' : mm_T), Outcome.returned v = .returned v' ∧ Q v' μ'' ∧ wm_P Γ μ'' t t.heap) ∧ va_F (fun q => cx_lo Γ ≤ q) s t := fun t ht hWm => ⟨⟨v, μ', rfl, hQ, by rw [ht]; exact wm_moved hWm.alike hW'⟩, hS.F ht⟩
  rcases hrt with ⟨rfl, hr, hd⟩ | ⟨x, rfl, hr, hd⟩ | ⟨r, rfl, ⟨n, hr⟩, hd⟩
  · exact W.vret B.exec B.bytes (B.returns.trans hr) hq hS.2.2 hd
  · rcases hr with hr | ⟨hr, hx⟩
    · exact W.iret (v := x) B.exec B.bytes (B.returns.trans hr) hq hS.2.2 hd
    · refine W.zret (v := x) (ty := .boolean) B.exec B.bytes (B.returns.trans hr) ?_ hq hS.2.2 hd
      rcases hx with rfl | rfl <;> rfl
  · refine W.aret (v := va_rf r) B.exec B.bytes (B.returns.trans hr) (Or.inl ⟨n, rfl⟩) ?_ hq hS.2.2 hd
    cases r with
    | none => exact Or.inl rfl
    | some a => exact Or.inr ⟨a, rfl⟩

theorem lc_0 {av : List Value} (L : List (Option Value)) (h : ∀ x ∈ L, x = none) : ∀ (i : Nat) (v : Value), L[i]? = some (some v) → av[i]? = some v := fun i v hi => by cases h _ (List.mem_of_getElem? hi)
theorem lc_1_1 (u : Unit) {v0 : Value} : ∀ (i : Nat) (v : Value), ([some v0] : List (Option Value))[i]? = some (some v) → ([v0] : List Value)[i]? = some v
  | 0, v, h => by simpa using h
  | i + 1, v, h => by simp at h
theorem lc_1_2 (u : Unit) {v0 : Value} : ∀ (i : Nat) (v : Value), ([some v0, none] : List (Option Value))[i]? = some (some v) → ([v0] : List Value)[i]? = some v
  | 0, v, h => by simpa using h
  | 1, v, h => by simp at h
  | i + 2, v, h => by simp at h
theorem lc_1_3 (u : Unit) {v0 : Value} : ∀ (i : Nat) (v : Value), ([some v0, none, none] : List (Option Value))[i]? = some (some v) → ([v0] : List Value)[i]? = some v
  | 0, v, h => by simpa using h
  | 1, v, h => by simp at h
  | 2, v, h => by simp at h
  | i + 3, v, h => by simp at h
theorem lc_1_4 (u : Unit) {v0 : Value} : ∀ (i : Nat) (v : Value), ([some v0, none, none, none] : List (Option Value))[i]? = some (some v) → ([v0] : List Value)[i]? = some v
  | 0, v, h => by simpa using h
  | 1, v, h => by simp at h
  | 2, v, h => by simp at h
  | 3, v, h => by simp at h
  | i + 4, v, h => by simp at h
theorem lc_1_5 (u : Unit) {v0 : Value} : ∀ (i : Nat) (v : Value), ([some v0, none, none, none, none] : List (Option Value))[i]? = some (some v) → ([v0] : List Value)[i]? = some v
  | 0, v, h => by simpa using h
  | 1, v, h => by simp at h
  | 2, v, h => by simp at h
  | 3, v, h => by simp at h
  | 4, v, h => by simp at h
  | i + 5, v, h => by simp at h
theorem lc_1_6 (u : Unit) {v0 : Value} : ∀ (i : Nat) (v : Value), ([some v0, none, none, none, none, none] : List (Option Value))[i]? = some (some v) → ([v0] : List Value)[i]? = some v
  | 0, v, h => by simpa using h
  | 1, v, h => by simp at h
  | 2, v, h => by simp at h
  | 3, v, h => by simp at h
  | 4, v, h => by simp at h
  | 5, v, h => by simp at h
  | i + 6, v, h => by simp at h
theorem lc_2_2 (u : Unit) {v0 v1 : Value} : ∀ (i : Nat) (v : Value), ([some v0, some v1] : List (Option Value))[i]? = some (some v) → ([v0, v1] : List Value)[i]? = some v
  | 0, v, h => by simpa using h
  | 1, v, h => by simpa using h
  | i + 2, v, h => by simp at h
theorem lc_2_3 (u : Unit) {v0 v1 : Value} : ∀ (i : Nat) (v : Value), ([some v0, some v1, none] : List (Option Value))[i]? = some (some v) → ([v0, v1] : List Value)[i]? = some v
  | 0, v, h => by simpa using h
  | 1, v, h => by simpa using h
  | 2, v, h => by simp at h
  | i + 3, v, h => by simp at h
theorem lc_2_4 (u : Unit) {v0 v1 : Value} : ∀ (i : Nat) (v : Value), ([some v0, some v1, none, none] : List (Option Value))[i]? = some (some v) → ([v0, v1] : List Value)[i]? = some v
  | 0, v, h => by simpa using h
  | 1, v, h => by simpa using h
  | 2, v, h => by simp at h
  | 3, v, h => by simp at h
  | i + 4, v, h => by simp at h
theorem lc_2_5 (u : Unit) {v0 v1 : Value} : ∀ (i : Nat) (v : Value), ([some v0, some v1, none, none, none] : List (Option Value))[i]? = some (some v) → ([v0, v1] : List Value)[i]? = some v
  | 0, v, h => by simpa using h
  | 1, v, h => by simpa using h
  | 2, v, h => by simp at h
  | 3, v, h => by simp at h
  | 4, v, h => by simp at h
  | i + 5, v, h => by simp at h
theorem lc_2_6 (u : Unit) {v0 v1 : Value} : ∀ (i : Nat) (v : Value), ([some v0, some v1, none, none, none, none] : List (Option Value))[i]? = some (some v) → ([v0, v1] : List Value)[i]? = some v
  | 0, v, h => by simpa using h
  | 1, v, h => by simpa using h
  | 2, v, h => by simp at h
  | 3, v, h => by simp at h
  | 4, v, h => by simp at h
  | 5, v, h => by simp at h
  | i + 6, v, h => by simp at h
theorem lc_2_7 (u : Unit) {v0 v1 : Value} : ∀ (i : Nat) (v : Value), ([some v0, some v1, none, none, none, none, none] : List (Option Value))[i]? = some (some v) → ([v0, v1] : List Value)[i]? = some v
  | 0, v, h => by simpa using h
  | 1, v, h => by simpa using h
  | 2, v, h => by simp at h
  | 3, v, h => by simp at h
  | 4, v, h => by simp at h
  | 5, v, h => by simp at h
  | 6, v, h => by simp at h
  | i + 7, v, h => by simp at h
theorem lc_3_3 (u : Unit) {v0 v1 v2 : Value} : ∀ (i : Nat) (v : Value), ([some v0, some v1, some v2] : List (Option Value))[i]? = some (some v) → ([v0, v1, v2] : List Value)[i]? = some v
  | 0, v, h => by simpa using h
  | 1, v, h => by simpa using h
  | 2, v, h => by simpa using h
  | i + 3, v, h => by simp at h
theorem lc_3_4 (u : Unit) {v0 v1 v2 : Value} : ∀ (i : Nat) (v : Value), ([some v0, some v1, some v2, none] : List (Option Value))[i]? = some (some v) → ([v0, v1, v2] : List Value)[i]? = some v
  | 0, v, h => by simpa using h
  | 1, v, h => by simpa using h
  | 2, v, h => by simpa using h
  | 3, v, h => by simp at h
  | i + 4, v, h => by simp at h
theorem lc_3_5 (u : Unit) {v0 v1 v2 : Value} : ∀ (i : Nat) (v : Value), ([some v0, some v1, some v2, none, none] : List (Option Value))[i]? = some (some v) → ([v0, v1, v2] : List Value)[i]? = some v
  | 0, v, h => by simpa using h
  | 1, v, h => by simpa using h
  | 2, v, h => by simpa using h
  | 3, v, h => by simp at h
  | 4, v, h => by simp at h
  | i + 5, v, h => by simp at h
theorem lc_3_6 (u : Unit) {v0 v1 v2 : Value} : ∀ (i : Nat) (v : Value), ([some v0, some v1, some v2, none, none, none] : List (Option Value))[i]? = some (some v) → ([v0, v1, v2] : List Value)[i]? = some v
  | 0, v, h => by simpa using h
  | 1, v, h => by simpa using h
  | 2, v, h => by simpa using h
  | 3, v, h => by simp at h
  | 4, v, h => by simp at h
  | 5, v, h => by simp at h
  | i + 6, v, h => by simp at h
theorem lc_3_7 (u : Unit) {v0 v1 v2 : Value} : ∀ (i : Nat) (v : Value), ([some v0, some v1, some v2, none, none, none, none] : List (Option Value))[i]? = some (some v) → ([v0, v1, v2] : List Value)[i]? = some v
  | 0, v, h => by simpa using h
  | 1, v, h => by simpa using h
  | 2, v, h => by simpa using h
  | 3, v, h => by simp at h
  | 4, v, h => by simp at h
  | 5, v, h => by simp at h
  | 6, v, h => by simp at h
  | i + 7, v, h => by simp at h
theorem lc_3_8 (u : Unit) {v0 v1 v2 : Value} : ∀ (i : Nat) (v : Value), ([some v0, some v1, some v2, none, none, none, none, none] : List (Option Value))[i]? = some (some v) → ([v0, v1, v2] : List Value)[i]? = some v
  | 0, v, h => by simpa using h
  | 1, v, h => by simpa using h
  | 2, v, h => by simpa using h
  | 3, v, h => by simp at h
  | 4, v, h => by simp at h
  | 5, v, h => by simp at h
  | 6, v, h => by simp at h
  | 7, v, h => by simp at h
  | i + 8, v, h => by simp at h
theorem lc_4_4 (u : Unit) {v0 v1 v2 v3 : Value} : ∀ (i : Nat) (v : Value), ([some v0, some v1, some v2, some v3] : List (Option Value))[i]? = some (some v) → ([v0, v1, v2, v3] : List Value)[i]? = some v
  | 0, v, h => by simpa using h
  | 1, v, h => by simpa using h
  | 2, v, h => by simpa using h
  | 3, v, h => by simpa using h
  | i + 4, v, h => by simp at h
theorem lc_4_5 (u : Unit) {v0 v1 v2 v3 : Value} : ∀ (i : Nat) (v : Value), ([some v0, some v1, some v2, some v3, none] : List (Option Value))[i]? = some (some v) → ([v0, v1, v2, v3] : List Value)[i]? = some v
  | 0, v, h => by simpa using h
  | 1, v, h => by simpa using h
  | 2, v, h => by simpa using h
  | 3, v, h => by simpa using h
  | 4, v, h => by simp at h
  | i + 5, v, h => by simp at h
theorem lc_4_6 (u : Unit) {v0 v1 v2 v3 : Value} : ∀ (i : Nat) (v : Value), ([some v0, some v1, some v2, some v3, none, none] : List (Option Value))[i]? = some (some v) → ([v0, v1, v2, v3] : List Value)[i]? = some v
  | 0, v, h => by simpa using h
  | 1, v, h => by simpa using h
  | 2, v, h => by simpa using h
  | 3, v, h => by simpa using h
  | 4, v, h => by simp at h
  | 5, v, h => by simp at h
  | i + 6, v, h => by simp at h
theorem lc_4_7 (u : Unit) {v0 v1 v2 v3 : Value} : ∀ (i : Nat) (v : Value), ([some v0, some v1, some v2, some v3, none, none, none] : List (Option Value))[i]? = some (some v) → ([v0, v1, v2, v3] : List Value)[i]? = some v
  | 0, v, h => by simpa using h
  | 1, v, h => by simpa using h
  | 2, v, h => by simpa using h
  | 3, v, h => by simpa using h
  | 4, v, h => by simp at h
  | 5, v, h => by simp at h
  | 6, v, h => by simp at h
  | i + 7, v, h => by simp at h
theorem lc_4_8 (u : Unit) {v0 v1 v2 v3 : Value} : ∀ (i : Nat) (v : Value), ([some v0, some v1, some v2, some v3, none, none, none, none] : List (Option Value))[i]? = some (some v) → ([v0, v1, v2, v3] : List Value)[i]? = some v
  | 0, v, h => by simpa using h
  | 1, v, h => by simpa using h
  | 2, v, h => by simpa using h
  | 3, v, h => by simpa using h
  | 4, v, h => by simp at h
  | 5, v, h => by simp at h
  | 6, v, h => by simp at h
  | 7, v, h => by simp at h
  | i + 8, v, h => by simp at h
theorem lc_4_9 (u : Unit) {v0 v1 v2 v3 : Value} : ∀ (i : Nat) (v : Value), ([some v0, some v1, some v2, some v3, none, none, none, none, none] : List (Option Value))[i]? = some (some v) → ([v0, v1, v2, v3] : List Value)[i]? = some v
  | 0, v, h => by simpa using h
  | 1, v, h => by simpa using h
  | 2, v, h => by simpa using h
  | 3, v, h => by simpa using h
  | 4, v, h => by simp at h
  | 5, v, h => by simp at h
  | 6, v, h => by simp at h
  | 7, v, h => by simp at h
  | 8, v, h => by simp at h
  | i + 9, v, h => by simp at h
theorem lc_5_5 (u : Unit) {v0 v1 v2 v3 v4 : Value} : ∀ (i : Nat) (v : Value), ([some v0, some v1, some v2, some v3, some v4] : List (Option Value))[i]? = some (some v) → ([v0, v1, v2, v3, v4] : List Value)[i]? = some v
  | 0, v, h => by simpa using h
  | 1, v, h => by simpa using h
  | 2, v, h => by simpa using h
  | 3, v, h => by simpa using h
  | 4, v, h => by simpa using h
  | i + 5, v, h => by simp at h
theorem lc_5_6 (u : Unit) {v0 v1 v2 v3 v4 : Value} : ∀ (i : Nat) (v : Value), ([some v0, some v1, some v2, some v3, some v4, none] : List (Option Value))[i]? = some (some v) → ([v0, v1, v2, v3, v4] : List Value)[i]? = some v
  | 0, v, h => by simpa using h
  | 1, v, h => by simpa using h
  | 2, v, h => by simpa using h
  | 3, v, h => by simpa using h
  | 4, v, h => by simpa using h
  | 5, v, h => by simp at h
  | i + 6, v, h => by simp at h
theorem lc_5_7 (u : Unit) {v0 v1 v2 v3 v4 : Value} : ∀ (i : Nat) (v : Value), ([some v0, some v1, some v2, some v3, some v4, none, none] : List (Option Value))[i]? = some (some v) → ([v0, v1, v2, v3, v4] : List Value)[i]? = some v
  | 0, v, h => by simpa using h
  | 1, v, h => by simpa using h
  | 2, v, h => by simpa using h
  | 3, v, h => by simpa using h
  | 4, v, h => by simpa using h
  | 5, v, h => by simp at h
  | 6, v, h => by simp at h
  | i + 7, v, h => by simp at h
theorem lc_5_8 (u : Unit) {v0 v1 v2 v3 v4 : Value} : ∀ (i : Nat) (v : Value), ([some v0, some v1, some v2, some v3, some v4, none, none, none] : List (Option Value))[i]? = some (some v) → ([v0, v1, v2, v3, v4] : List Value)[i]? = some v
  | 0, v, h => by simpa using h
  | 1, v, h => by simpa using h
  | 2, v, h => by simpa using h
  | 3, v, h => by simpa using h
  | 4, v, h => by simpa using h
  | 5, v, h => by simp at h
  | 6, v, h => by simp at h
  | 7, v, h => by simp at h
  | i + 8, v, h => by simp at h
theorem lc_5_9 (u : Unit) {v0 v1 v2 v3 v4 : Value} : ∀ (i : Nat) (v : Value), ([some v0, some v1, some v2, some v3, some v4, none, none, none, none] : List (Option Value))[i]? = some (some v) → ([v0, v1, v2, v3, v4] : List Value)[i]? = some v
  | 0, v, h => by simpa using h
  | 1, v, h => by simpa using h
  | 2, v, h => by simpa using h
  | 3, v, h => by simpa using h
  | 4, v, h => by simpa using h
  | 5, v, h => by simp at h
  | 6, v, h => by simp at h
  | 7, v, h => by simp at h
  | 8, v, h => by simp at h
  | i + 9, v, h => by simp at h
theorem lc_5_10 (u : Unit) {v0 v1 v2 v3 v4 : Value} : ∀ (i : Nat) (v : Value), ([some v0, some v1, some v2, some v3, some v4, none, none, none, none, none] : List (Option Value))[i]? = some (some v) → ([v0, v1, v2, v3, v4] : List Value)[i]? = some v
  | 0, v, h => by simpa using h
  | 1, v, h => by simpa using h
  | 2, v, h => by simpa using h
  | 3, v, h => by simpa using h
  | 4, v, h => by simpa using h
  | 5, v, h => by simp at h
  | 6, v, h => by simp at h
  | 7, v, h => by simp at h
  | 8, v, h => by simp at h
  | 9, v, h => by simp at h
  | i + 10, v, h => by simp at h
theorem lc_6_6 (u : Unit) {v0 v1 v2 v3 v4 v5 : Value} : ∀ (i : Nat) (v : Value), ([some v0, some v1, some v2, some v3, some v4, some v5] : List (Option Value))[i]? = some (some v) → ([v0, v1, v2, v3, v4, v5] : List Value)[i]? = some v
  | 0, v, h => by simpa using h
  | 1, v, h => by simpa using h
  | 2, v, h => by simpa using h
  | 3, v, h => by simpa using h
  | 4, v, h => by simpa using h
  | 5, v, h => by simpa using h
  | i + 6, v, h => by simp at h
theorem lc_6_7 (u : Unit) {v0 v1 v2 v3 v4 v5 : Value} : ∀ (i : Nat) (v : Value), ([some v0, some v1, some v2, some v3, some v4, some v5, none] : List (Option Value))[i]? = some (some v) → ([v0, v1, v2, v3, v4, v5] : List Value)[i]? = some v
  | 0, v, h => by simpa using h
  | 1, v, h => by simpa using h
  | 2, v, h => by simpa using h
  | 3, v, h => by simpa using h
  | 4, v, h => by simpa using h
  | 5, v, h => by simpa using h
  | 6, v, h => by simp at h
  | i + 7, v, h => by simp at h
theorem lc_6_8 (u : Unit) {v0 v1 v2 v3 v4 v5 : Value} : ∀ (i : Nat) (v : Value), ([some v0, some v1, some v2, some v3, some v4, some v5, none, none] : List (Option Value))[i]? = some (some v) → ([v0, v1, v2, v3, v4, v5] : List Value)[i]? = some v
  | 0, v, h => by simpa using h
  | 1, v, h => by simpa using h
  | 2, v, h => by simpa using h
  | 3, v, h => by simpa using h
  | 4, v, h => by simpa using h
  | 5, v, h => by simpa using h
  | 6, v, h => by simp at h
  | 7, v, h => by simp at h
  | i + 8, v, h => by simp at h
theorem lc_6_9 (u : Unit) {v0 v1 v2 v3 v4 v5 : Value} : ∀ (i : Nat) (v : Value), ([some v0, some v1, some v2, some v3, some v4, some v5, none, none, none] : List (Option Value))[i]? = some (some v) → ([v0, v1, v2, v3, v4, v5] : List Value)[i]? = some v
  | 0, v, h => by simpa using h
  | 1, v, h => by simpa using h
  | 2, v, h => by simpa using h
  | 3, v, h => by simpa using h
  | 4, v, h => by simpa using h
  | 5, v, h => by simpa using h
  | 6, v, h => by simp at h
  | 7, v, h => by simp at h
  | 8, v, h => by simp at h
  | i + 9, v, h => by simp at h
theorem lc_6_10 (u : Unit) {v0 v1 v2 v3 v4 v5 : Value} : ∀ (i : Nat) (v : Value), ([some v0, some v1, some v2, some v3, some v4, some v5, none, none, none, none] : List (Option Value))[i]? = some (some v) → ([v0, v1, v2, v3, v4, v5] : List Value)[i]? = some v
  | 0, v, h => by simpa using h
  | 1, v, h => by simpa using h
  | 2, v, h => by simpa using h
  | 3, v, h => by simpa using h
  | 4, v, h => by simpa using h
  | 5, v, h => by simpa using h
  | 6, v, h => by simp at h
  | 7, v, h => by simp at h
  | 8, v, h => by simp at h
  | 9, v, h => by simp at h
  | i + 10, v, h => by simp at h
theorem lc_6_11 (u : Unit) {v0 v1 v2 v3 v4 v5 : Value} : ∀ (i : Nat) (v : Value), ([some v0, some v1, some v2, some v3, some v4, some v5, none, none, none, none, none] : List (Option Value))[i]? = some (some v) → ([v0, v1, v2, v3, v4, v5] : List Value)[i]? = some v
  | 0, v, h => by simpa using h
  | 1, v, h => by simpa using h
  | 2, v, h => by simpa using h
  | 3, v, h => by simpa using h
  | 4, v, h => by simpa using h
  | 5, v, h => by simpa using h
  | 6, v, h => by simp at h
  | 7, v, h => by simp at h
  | 8, v, h => by simp at h
  | 9, v, h => by simp at h
  | 10, v, h => by simp at h
  | i + 11, v, h => by simp at h
theorem vi_1 {i : Int32} {n : Nat} (h1 : ¬ i < 0) (h2 : ¬ Int32.ofNat n ≤ i) (hn : n < 2 ^ 31) : vp_in i n := by
  rw [vp_in_iff]
  rw [Int32.lt_iff_toInt_lt] at h1
  rw [Int32.le_iff_toInt_le] at h2
  have e : (Int32.ofNat n).toInt = (n : Int) := nI_toInt hn
  rw [e] at h2
  rw [Int32.toInt_zero] at h1
  omega
theorem vi_2 {i : Int32} {n : Nat} (h1 : 0 ≤ i) (h2 : i < Int32.ofNat n) (hn : n < 2 ^ 31) : vp_in i n := vi_1 (by rw [Int32.lt_iff_toInt_lt]; rw [Int32.le_iff_toInt_le] at h1; omega) (by rw [Int32.le_iff_toInt_le]; rw [Int32.lt_iff_toInt_lt] at h2; omega) hn
def mx_I (x y : Int32) : Int32 := if x < y then y else x
def mn_I (x y : Int32) : Int32 := if y < x then y else x
def ab_I (x : Int32) : Int32 := if 0 ≤ x then x else -x
def sg_I (x : Int32) : Int32 := (x >>> (31 &&& 31)) ||| ((-x).toUInt32 >>> ((31 : Int32).toUInt32 &&& Int32.toUInt32 31)).toInt32
def fd_I (x y : Int32) : Int32 := if (x ^^^ y) < 0 ∧ ¬ x / y * y = x then x / y - 1 else x / y
def at_I (g : Nat → Int32) (n : Nat) (i : Int32) : Int32 := if i < 0 ∨ Int32.ofNat n ≤ i then 0 else g i.toNatClampNeg
def pu_I (ν : Nat → Nat → Int32) (r n : Nat) (i v : Int32) : Nat → Nat → Int32 := if i < 0 ∨ Int32.ofNat n ≤ i then ν else up_2 ν r i.toNatClampNeg v
set_option maxRecDepth 100000 in
set_option maxHeartbeats 4000000 in
theorem sp_J_max {Γ : cx_T} {τ : Nat × (Nat → sh_T)} {ν : Nat → Nat → Int32} {x y : Int32} : mt_P Γ mk_J_max [.int x, .int y] (τ, ν) (fun v μ' => v = some (.int (mx_I x y)) ∧ μ' = (τ, ν)) := by
  refine mt_ofF (L := [some (.int x), some (.int y)]) (by decide +kernel) (by simp [Value.category]) (Nat.le_of_ble_eq_true rfl) (lc_2_2 ()) ?_
  refine gg_ildn dc_J_max_0 rfl rfl ?_
  refine gg_ildn dc_J_max_1 rfl rfl ?_
  refine gg_iclt dc_J_max_2 (fun c_2 => ?_) (fun c_2 => ?_)
  · refine gg_ildn dc_J_max_9 rfl rfl ?_
    exact gg_iret dc_J_max_10 rfl ⟨Nat.le_of_ble_eq_true rfl, Nat.le_of_ble_eq_true rfl⟩ (⟨by unfold mx_I; first | rw [if_pos (by assumption)] | rw [if_neg (by assumption)], rfl⟩)
  · refine gg_ildn dc_J_max_5 rfl rfl ?_
    refine gg_goto dc_J_max_6 ?_
    exact gg_iret dc_J_max_10 rfl ⟨Nat.le_of_ble_eq_true rfl, Nat.le_of_ble_eq_true rfl⟩ (⟨by unfold mx_I; first | rw [if_pos (by assumption)] | rw [if_neg (by assumption)], rfl⟩)
set_option maxRecDepth 100000 in
set_option maxHeartbeats 4000000 in
theorem sp_J_min {Γ : cx_T} {τ : Nat × (Nat → sh_T)} {ν : Nat → Nat → Int32} {x y : Int32} : mt_P Γ mk_J_min [.int x, .int y] (τ, ν) (fun v μ' => v = some (.int (mn_I x y)) ∧ μ' = (τ, ν)) := by
  refine mt_ofF (L := [some (.int x), some (.int y)]) (by decide +kernel) (by simp [Value.category]) (Nat.le_of_ble_eq_true rfl) (lc_2_2 ()) ?_
  refine gg_ildn dc_J_min_0 rfl rfl ?_
  refine gg_ildn dc_J_min_1 rfl rfl ?_
  refine gg_icgt dc_J_min_2 (fun c_2 => ?_) (fun c_2 => ?_)
  · refine gg_ildn dc_J_min_9 rfl rfl ?_
    exact gg_iret dc_J_min_10 rfl ⟨Nat.le_of_ble_eq_true rfl, Nat.le_of_ble_eq_true rfl⟩ (⟨by unfold mn_I; first | rw [if_pos (by assumption)] | rw [if_neg (by assumption)], rfl⟩)
  · refine gg_ildn dc_J_min_5 rfl rfl ?_
    refine gg_goto dc_J_min_6 ?_
    exact gg_iret dc_J_min_10 rfl ⟨Nat.le_of_ble_eq_true rfl, Nat.le_of_ble_eq_true rfl⟩ (⟨by unfold mn_I; first | rw [if_pos (by assumption)] | rw [if_neg (by assumption)], rfl⟩)
set_option maxRecDepth 100000 in
set_option maxHeartbeats 4000000 in
theorem sp_J_abs {Γ : cx_T} {τ : Nat × (Nat → sh_T)} {ν : Nat → Nat → Int32} {x : Int32} : mt_P Γ mk_J_abs [.int x] (τ, ν) (fun v μ' => v = some (.int (ab_I x)) ∧ μ' = (τ, ν)) := by
  refine mt_ofF (L := [some (.int x)]) (by decide +kernel) (by simp [Value.category]) (Nat.le_of_ble_eq_true rfl) (lc_1_1 ()) ?_
  refine gg_ildn dc_J_abs_0 rfl rfl ?_
  refine gg_ifge dc_J_abs_1 (fun c_1 => ?_) (fun c_1 => ?_)
  · refine gg_ildn dc_J_abs_9 rfl rfl ?_
    exact gg_iret dc_J_abs_10 rfl ⟨Nat.le_of_ble_eq_true rfl, Nat.le_of_ble_eq_true rfl⟩ (⟨by unfold ab_I; first | rw [if_pos (by assumption)] | rw [if_neg (by assumption)], rfl⟩)
  · refine gg_ildn dc_J_abs_4 rfl rfl ?_
    refine gg_ineg dc_J_abs_5 ?_
    refine gg_goto dc_J_abs_6 ?_
    exact gg_iret dc_J_abs_10 rfl ⟨Nat.le_of_ble_eq_true rfl, Nat.le_of_ble_eq_true rfl⟩ (⟨by unfold ab_I; first | rw [if_pos (by assumption)] | rw [if_neg (by assumption)], rfl⟩)
set_option maxRecDepth 100000 in
set_option maxHeartbeats 4000000 in
theorem sp_J_signum {Γ : cx_T} {τ : Nat × (Nat → sh_T)} {ν : Nat → Nat → Int32} {x : Int32} : mt_P Γ mk_J_signum [.int x] (τ, ν) (fun v μ' => v = some (.int (sg_I x)) ∧ μ' = (τ, ν)) := by
  refine mt_of (L := [some (.int x)]) (by decide +kernel) (by simp [Value.category]) (Nat.le_of_ble_eq_true rfl) (lc_1_1 ()) ?_
  refine gg_ildn dc_J_signum_0 rfl rfl ?_
  refine gg_bipush (v := 31) dc_J_signum_1 (by decide) ?_
  refine gg_ishr dc_J_signum_3 ?_
  refine gg_ildn dc_J_signum_4 rfl rfl ?_
  refine gg_ineg dc_J_signum_5 ?_
  refine gg_bipush (v := 31) dc_J_signum_6 (by decide) ?_
  refine gg_iushr dc_J_signum_8 ?_
  refine gg_ior dc_J_signum_9 ?_
  exact gg_iret dc_J_signum_10 rfl ⟨Nat.le_of_ble_eq_true rfl, Nat.le_of_ble_eq_true rfl⟩ (⟨rfl, rfl⟩)
set_option maxRecDepth 100000 in
set_option maxHeartbeats 4000000 in
theorem sp_J_floorDiv {Γ : cx_T} {τ : Nat × (Nat → sh_T)} {ν : Nat → Nat → Int32} {x y : Int32} (hy : ¬ y = 0) : mt_P Γ mk_J_floorDiv [.int x, .int y] (τ, ν) (fun v μ' => v = some (.int (fd_I x y)) ∧ μ' = (τ, ν)) := by
  refine mt_ofF (L := [some (.int x), some (.int y), none]) (by decide +kernel) (by simp [Value.category]) (Nat.le_of_ble_eq_true rfl) (lc_2_3 ()) ?_
  refine gg_ildn dc_J_floorDiv_0 rfl rfl ?_
  refine gg_ildn dc_J_floorDiv_1 rfl rfl ?_
  refine gg_idiv dc_J_floorDiv_2 (hy) ?_
  refine gg_istn (i := 2) dc_J_floorDiv_3 rfl (Nat.le_of_ble_eq_true rfl) ?_
  dsimp only [List.set]
  refine gg_ildn dc_J_floorDiv_4 rfl rfl ?_
  refine gg_ildn dc_J_floorDiv_5 rfl rfl ?_
  refine gg_ixor dc_J_floorDiv_6 ?_
  refine gg_ifge dc_J_floorDiv_7 (fun c_7 => ?_) (fun c_7 => ?_)
  · refine gg_ildn dc_J_floorDiv_21 rfl rfl ?_
    exact gg_iret dc_J_floorDiv_22 rfl ⟨Nat.le_of_ble_eq_true rfl, Nat.le_of_ble_eq_true rfl⟩ (⟨by unfold fd_I; rw [if_neg (fun h => c_7 |> fun q => by first | exact absurd h.1 (Int32.not_lt.mpr q) | exact absurd h.1 q)], rfl⟩)
  · refine gg_ildn dc_J_floorDiv_10 rfl rfl ?_
    refine gg_ildn dc_J_floorDiv_11 rfl rfl ?_
    refine gg_imul dc_J_floorDiv_12 ?_
    refine gg_ildn dc_J_floorDiv_13 rfl rfl ?_
    refine gg_iceq dc_J_floorDiv_14 (fun c_14 => ?_) (fun c_14 => ?_)
    · refine gg_ildn dc_J_floorDiv_21 rfl rfl ?_
      exact gg_iret dc_J_floorDiv_22 rfl ⟨Nat.le_of_ble_eq_true rfl, Nat.le_of_ble_eq_true rfl⟩ (⟨by unfold fd_I; rw [if_neg (fun h => h.2 c_14)], rfl⟩)
    · refine gg_ildn dc_J_floorDiv_17 rfl rfl ?_
      refine gg_iconst (v := 1) dc_J_floorDiv_18 (by decide) ?_
      refine gg_isub dc_J_floorDiv_19 ?_
      exact gg_iret dc_J_floorDiv_20 rfl ⟨Nat.le_of_ble_eq_true rfl, Nat.le_of_ble_eq_true rfl⟩ (⟨by unfold fd_I; rw [if_pos ⟨by first | exact c_7 | exact Int32.not_le.mp c_7, c_14⟩], rfl⟩)
set_option maxRecDepth 100000 in
set_option maxHeartbeats 4000000 in
theorem sp_R_at {Γ : cx_T} {τ : Nat × (Nat → sh_T)} {ν : Nat → Nat → Int32} {r n : Nat} {i : Int32} (h : τ.2 r = .inl (0, n)) (hn : n < 2 ^ 31) : mt_P Γ mk_R_at [.ref r, .int i] (τ, ν) (fun v μ' => v = some (.int (at_I (ν r) n i)) ∧ μ' = (τ, ν)) := by
  refine mt_of (L := [some (.ref r), some (.int i)]) (by decide +kernel) (by simp [Value.category]) (Nat.le_of_ble_eq_true rfl) (lc_2_2 ()) ?_
  refine gg_ildn dc_R_at_0 rfl rfl ?_
  refine gg_iflt dc_R_at_1 (fun c_1 => ?_) (fun c_1 => ?_)
  · refine gg_iconst (v := 0) dc_R_at_16 (by decide) ?_
    exact gg_iret dc_R_at_17 rfl ⟨Nat.le_of_ble_eq_true rfl, Nat.le_of_ble_eq_true rfl⟩ (⟨by unfold at_I; rw [if_pos (Or.inl c_1)], rfl⟩)
  · refine gg_ildn dc_R_at_4 rfl rfl ?_
    refine gg_aldn dc_R_at_5 rfl rfl ?_
    refine gg_alen dc_R_at_6 (Or.inl h) rfl ?_
    refine gg_icge dc_R_at_7 (fun c_7 => ?_) (fun c_7 => ?_)
    · refine gg_iconst (v := 0) dc_R_at_16 (by decide) ?_
      exact gg_iret dc_R_at_17 rfl ⟨Nat.le_of_ble_eq_true rfl, Nat.le_of_ble_eq_true rfl⟩ (⟨by unfold at_I; rw [if_pos (Or.inr c_7)], rfl⟩)
    · refine gg_aldn dc_R_at_10 rfl rfl ?_
      refine gg_ildn dc_R_at_11 rfl rfl ?_
      refine gx_iald dc_R_at_12 h (vi_1 c_1 c_7 hn) ?_
      refine gg_goto dc_R_at_13 ?_
      exact gg_iret dc_R_at_17 rfl ⟨Nat.le_of_ble_eq_true rfl, Nat.le_of_ble_eq_true rfl⟩ (⟨by unfold at_I; rw [if_neg (fun h => h.elim c_1 c_7)], rfl⟩)
set_option maxRecDepth 100000 in
set_option maxHeartbeats 4000000 in
theorem sp_R_at2 {Γ : cx_T} {τ : Nat × (Nat → sh_T)} {ν : Nat → Nat → Int32} {r n : Nat} {i : Int32} (h : τ.2 r = .inl (2, n)) (hn : n < 2 ^ 31) : mt_P Γ mk_R_at [.ref r, .int i] (τ, ν) (fun v μ' => v = some (.int (at_I (ν r) n i)) ∧ μ' = (τ, ν)) := by
  refine mt_of (L := [some (.ref r), some (.int i)]) (by decide +kernel) (by simp [Value.category]) (Nat.le_of_ble_eq_true rfl) (lc_2_2 ()) ?_
  refine gg_ildn dc_R_at_0 rfl rfl ?_
  refine gg_iflt dc_R_at_1 (fun c_1 => ?_) (fun c_1 => ?_)
  · refine gg_iconst (v := 0) dc_R_at_16 (by decide) ?_
    exact gg_iret dc_R_at_17 rfl ⟨Nat.le_of_ble_eq_true rfl, Nat.le_of_ble_eq_true rfl⟩ (⟨by unfold at_I; rw [if_pos (Or.inl c_1)], rfl⟩)
  · refine gg_ildn dc_R_at_4 rfl rfl ?_
    refine gg_aldn dc_R_at_5 rfl rfl ?_
    refine gg_alen dc_R_at_6 (Or.inr (Or.inl h)) rfl ?_
    refine gg_icge dc_R_at_7 (fun c_7 => ?_) (fun c_7 => ?_)
    · refine gg_iconst (v := 0) dc_R_at_16 (by decide) ?_
      exact gg_iret dc_R_at_17 rfl ⟨Nat.le_of_ble_eq_true rfl, Nat.le_of_ble_eq_true rfl⟩ (⟨by unfold at_I; rw [if_pos (Or.inr c_7)], rfl⟩)
    · refine gg_aldn dc_R_at_10 rfl rfl ?_
      refine gg_ildn dc_R_at_11 rfl rfl ?_
      refine gx_iald2 dc_R_at_12 h (vi_1 c_1 c_7 hn) ?_
      refine gg_goto dc_R_at_13 ?_
      exact gg_iret dc_R_at_17 rfl ⟨Nat.le_of_ble_eq_true rfl, Nat.le_of_ble_eq_true rfl⟩ (⟨by unfold at_I; rw [if_neg (fun h => h.elim c_1 c_7)], rfl⟩)
set_option maxRecDepth 100000 in
set_option maxHeartbeats 4000000 in
theorem sp_R_put {Γ : cx_T} {τ : Nat × (Nat → sh_T)} {ν : Nat → Nat → Int32} {r n : Nat} {i x : Int32} (h : τ.2 r = .inl (0, n)) (hn : n < 2 ^ 31) : mt_P Γ mk_R_put [.ref r, .int i, .int x] (τ, ν) (fun v μ' => v = none ∧ μ' = (τ, pu_I ν r n i x)) := by
  refine mt_of (L := [some (.ref r), some (.int i), some (.int x)]) (by decide +kernel) (by simp [Value.category]) (Nat.le_of_ble_eq_true rfl) (lc_3_3 ()) ?_
  refine gg_ildn dc_R_put_0 rfl rfl ?_
  refine gg_iflt dc_R_put_1 (fun c_1 => ?_) (fun c_1 => ?_)
  · exact gg_vret dc_R_put_14 rfl ⟨Nat.le_of_ble_eq_true rfl, Nat.le_of_ble_eq_true rfl⟩ (⟨rfl, by unfold pu_I; rw [if_pos (Or.inl c_1)]⟩)
  · refine gg_ildn dc_R_put_4 rfl rfl ?_
    refine gg_aldn dc_R_put_5 rfl rfl ?_
    refine gg_alen dc_R_put_6 (Or.inl h) rfl ?_
    refine gg_icge dc_R_put_7 (fun c_7 => ?_) (fun c_7 => ?_)
    · exact gg_vret dc_R_put_14 rfl ⟨Nat.le_of_ble_eq_true rfl, Nat.le_of_ble_eq_true rfl⟩ (⟨rfl, by unfold pu_I; rw [if_pos (Or.inr c_7)]⟩)
    · refine gg_aldn dc_R_put_10 rfl rfl ?_
      refine gg_ildn dc_R_put_11 rfl rfl ?_
      refine gg_ildn dc_R_put_12 rfl rfl ?_
      refine gg_iast dc_R_put_13 h (vi_1 c_1 c_7 hn) ?_
      exact gg_vret dc_R_put_14 rfl ⟨Nat.le_of_ble_eq_true rfl, Nat.le_of_ble_eq_true rfl⟩ (⟨rfl, by unfold pu_I; rw [if_neg (fun h => h.elim c_1 c_7)]⟩)
end
section
/-! rows of numbers: gaps and copies; points by place -/
theorem nI_of0 : (0 : Int32) = nI 0 := rfl
theorem at_in {g : Nat → Int32} {n k : Nat} (hk : k < n) (hn : n < 2 ^ 31) : at_I g n (nI k) = g k := by
  unfold at_I
  rw [if_neg (fun h => h.elim (nI_pos (by omega)) (nI_ge hk hn)), nI_clamp (by omega)]
theorem pu_in {ν : Nat → Nat → Int32} {r n k : Nat} {v : Int32} (hk : k < n) (hn : n < 2 ^ 31) : pu_I ν r n (nI k) v = up_2 ν r k v := by
  unfold pu_I
  rw [if_neg (fun h => h.elim (nI_pos (by omega)) (nI_ge hk hn)), nI_clamp (by omega)]
theorem sp_R_atE {Γ : cx_T} {τ : Nat × (Nat → sh_T)} {ν : Nat → Nat → Int32} {r n : Nat} {i : Int32} (h : τ.2 r = .inl (0, n)) (hn : n < 2 ^ 31) {k : Nat} (hi : i = nI k) (hk : k < n) : mt_P Γ mk_R_at [.ref r, .int i] (τ, ν) (fun v μ' => v = some (.int (ν r k)) ∧ μ' = (τ, ν)) := by
  have := sp_R_at (Γ := Γ) (ν := ν) (i := i) h hn
  rw [hi] at this ⊢
  rw [at_in hk hn] at this
  exact this
theorem sp_R_putE {Γ : cx_T} {τ : Nat × (Nat → sh_T)} {ν : Nat → Nat → Int32} {r n : Nat} {i x : Int32} (h : τ.2 r = .inl (0, n)) (hn : n < 2 ^ 31) {k : Nat} (hi : i = nI k) (hk : k < n) : mt_P Γ mk_R_put [.ref r, .int i, .int x] (τ, ν) (fun v μ' => v = none ∧ μ' = (τ, up_2 ν r k x)) := by
  have := sp_R_put (Γ := Γ) (ν := ν) (i := i) (x := x) h hn
  rw [hi] at this ⊢
  rw [pu_in hk hn] at this
  exact this
def og_I (g : Nat → Int32) (k n : Nat) : Nat → Int32 := fun x => if k < x ∧ x ≤ n then g (x - 1) else g x
def cg_I (g : Nat → Int32) (k j : Nat) : Nat → Int32 := fun x => if k ≤ x ∧ x < j then g (x + 1) else g x
theorem up_va {ν : Nat → Nat → Int32} {r j : Nat} {g : Nat → Int32} {v : Int32} : up_2 (va_up ν r g) r j v = va_up ν r (upd g j v) := by
  funext b x
  unfold up_2 va_up upd
  by_cases hb : b = r <;> by_cases hx : x = j <;> simp [hb, hx]
theorem va_id {ν : Nat → Nat → Int32} {r : Nat} : va_up ν r (ν r) = ν := by
  funext b x
  unfold va_up
  by_cases hb : b = r <;> simp [hb]
theorem og_0 {g : Nat → Int32} {n : Nat} : og_I g n n = g := by
  funext x; unfold og_I; rw [if_neg (by omega)]
theorem cg_0 {g : Nat → Int32} {k : Nat} : cg_I g k k = g := by
  funext x; unfold cg_I; rw [if_neg (by omega)]
theorem og_s {g : Nat → Int32} {j n : Nat} (hj : j < n) : upd (og_I g (j + 1) n) (j + 1) (og_I g (j + 1) n j) = og_I g j n := by
  funext x; unfold og_I upd
  by_cases hx : x = j + 1
  · subst hx; rw [if_pos rfl, if_neg (by omega), if_pos (by omega)]; rfl
  · simp [hx]
    by_cases h1 : j + 1 < x ∧ x ≤ n
    · rw [if_pos h1, if_pos (by omega)]
    · rw [if_neg h1, if_neg (by omega)]
theorem cg_s {g : Nat → Int32} {k j : Nat} (hj : k ≤ j) : upd (cg_I g k j) j (cg_I g k j (j + 1)) = cg_I g k (j + 1) := by
  funext x; unfold cg_I upd
  by_cases hx : x = j
  · subst hx; rw [if_pos rfl, if_neg (by omega), if_pos (by omega)]
  · simp [hx]
    by_cases h1 : k ≤ x ∧ x < j
    · rw [if_pos h1, if_pos (by omega)]
    · rw [if_neg h1, if_neg (by omega)]
set_option maxRecDepth 100000 in
set_option maxHeartbeats 4000000 in
theorem sp_R_openGap {Γ : cx_T} {τ : Nat × (Nat → sh_T)} {ν : Nat → Nat → Int32} {r N k n : Nat} (h : τ.2 r = .inl (0, N)) (hN : N < 2 ^ 31) (hk : k ≤ n) (hn : n < N) : mt_P Γ mk_R_openGap [.ref r, .int (nI k), .int (nI n)] (τ, ν) (fun v μ' => v = none ∧ μ' = (τ, va_up ν r (og_I (ν r) k n))) := by
  refine mt_of (L := [some (.ref r), some (.int (nI k)), some (.int (nI n)), none]) (by decide +kernel) (by simp [Value.category]) (Nat.le_of_ble_eq_true rfl) (lc_3_4 ()) ?_
  have loop : ∀ (d j : Nat), k + d = j → j ≤ n → gg_P Γ mk_R_openGap (fun v μ' => v = none ∧ μ' = (τ, va_up ν r (og_I (ν r) k n))) 0 0 2 [some (.ref r), some (.int (nI k)), some (.int (nI n)), some (.int (nI j))] [] (τ, va_up ν r (og_I (ν r) j n)) := by
    intro d
    induction d with
    | zero =>
      intro j hj hjn
      have hj : k = j := by omega
      subst hj
      refine gg_ildn dc_R_openGap_2 rfl rfl ?_
      refine gg_ildn dc_R_openGap_3 rfl rfl ?_
      refine gg_icle dc_R_openGap_4 (fun c_4 => ?_) (fun c_4 => ?_)
      · exact gg_vret dc_R_openGap_25 rfl ⟨Nat.le_of_ble_eq_true rfl, Nat.le_of_ble_eq_true rfl⟩ (⟨rfl, rfl⟩)
      · exact absurd (Int32.le_refl _) c_4
    | succ d ih =>
      intro j0 hj0 hjn
      obtain ⟨j, rfl⟩ : ∃ j, j0 = j + 1 := ⟨j0 - 1, by omega⟩
      refine gg_ildn dc_R_openGap_2 rfl rfl ?_
      refine gg_ildn dc_R_openGap_3 rfl rfl ?_
      refine gg_icle dc_R_openGap_4 (fun c_4 => ?_) (fun c_4 => ?_)
      · exact absurd c_4 (nI_ge (by omega) (by omega))
      · refine gg_aldn dc_R_openGap_7 rfl rfl ?_
        refine gg_ildn dc_R_openGap_8 rfl rfl ?_
        refine gg_aldn dc_R_openGap_9 rfl rfl ?_
        refine gg_ildn dc_R_openGap_10 rfl rfl ?_
        refine gg_iconst (v := 1) dc_R_openGap_11 (by decide) ?_
        refine gg_isub dc_R_openGap_12 ?_
        refine gg_okS (sp_R_atE h (by omega) (nI_pred j) (by omega)) dc_R_openGap_13 ml_R_19 ce_R_at ⟨Nat.le_of_ble_eq_true rfl, Nat.le_of_ble_eq_true rfl⟩ rfl (Nat.le_of_ble_eq_true rfl) ⟨rfl, rfl⟩ ⟨Nat.le_of_ble_eq_true rfl, Nat.le_of_ble_eq_true rfl⟩ ?_
        refine gg_okSv (sp_R_putE h (by omega) rfl (by omega)) dc_R_openGap_16 ml_R_25 ce_R_put ⟨Nat.le_of_ble_eq_true rfl, Nat.le_of_ble_eq_true rfl⟩ rfl (Nat.le_of_ble_eq_true rfl) ⟨rfl, rfl⟩ ⟨Nat.le_of_ble_eq_true rfl, Nat.le_of_ble_eq_true rfl⟩ ?_
        refine gg_iinc (i := 3) dc_R_openGap_19 rfl (Nat.le_of_ble_eq_true rfl) ?_
        dsimp only [List.set]
        rw [show Int32.ofInt (-1) = (-1) from by decide]
        refine gg_goto dc_R_openGap_22 ?_
        have e9 : nI (j + 1) + (-1) = nI j := pk_m1 j
        refine gg_e (ih j (by omega) (by omega)) (by rw [e9]) rfl ?_
        rw [up_va, va_up_self, og_s (by omega)]
  refine gg_ildn dc_R_openGap_0 rfl rfl ?_
  refine gg_istn (i := 3) dc_R_openGap_1 rfl (Nat.le_of_ble_eq_true rfl) ?_
  dsimp only [List.set]
  refine gg_e (loop (n - k) n (by omega) (Nat.le_refl n)) rfl rfl ?_
  rw [og_0, va_id]
set_option maxRecDepth 100000 in
set_option maxHeartbeats 4000000 in
theorem sp_R_closeGap {Γ : cx_T} {τ : Nat × (Nat → sh_T)} {ν : Nat → Nat → Int32} {r N k n : Nat} (h : τ.2 r = .inl (0, N)) (hN : N < 2 ^ 31) (hk : k ≤ n) (hn : n < N) : mt_P Γ mk_R_closeGap [.ref r, .int (nI k), .int (nI (n + 1))] (τ, ν) (fun v μ' => v = none ∧ μ' = (τ, va_up ν r (cg_I (ν r) k n))) := by
  refine mt_of (L := [some (.ref r), some (.int (nI k)), some (.int (nI (n + 1))), none]) (by decide +kernel) (by simp [Value.category]) (Nat.le_of_ble_eq_true rfl) (lc_3_4 ()) ?_
  have loop : ∀ (d j : Nat), j + d = n → k ≤ j → gg_P Γ mk_R_closeGap (fun v μ' => v = none ∧ μ' = (τ, va_up ν r (cg_I (ν r) k n))) 0 0 2 [some (.ref r), some (.int (nI k)), some (.int (nI (n + 1))), some (.int (nI j))] [] (τ, va_up ν r (cg_I (ν r) k j)) := by
    intro d
    induction d with
    | zero =>
      intro j hj hkj
      have hj : j = n := by omega
      subst hj
      refine gg_ildn dc_R_closeGap_2 rfl rfl ?_
      refine gg_ildn dc_R_closeGap_3 rfl rfl ?_
      refine gg_iconst (v := 1) dc_R_closeGap_4 (by decide) ?_
      refine gg_isub dc_R_closeGap_5 ?_
      refine gg_icge dc_R_closeGap_6 (fun c_6 => ?_) (fun c_6 => ?_)
      · exact gg_vret dc_R_closeGap_27 rfl ⟨Nat.le_of_ble_eq_true rfl, Nat.le_of_ble_eq_true rfl⟩ (⟨rfl, rfl⟩)
      · exact absurd (by rw [nI_pred]; exact Int32.le_refl _) c_6
    | succ d ih =>
      intro j hj hkj
      have ih := fun j' (h1 : j' + d = n) => ih j' h1 (by omega)
      refine gg_ildn dc_R_closeGap_2 rfl rfl ?_
      refine gg_ildn dc_R_closeGap_3 rfl rfl ?_
      refine gg_iconst (v := 1) dc_R_closeGap_4 (by decide) ?_
      refine gg_isub dc_R_closeGap_5 ?_
      refine gg_icge dc_R_closeGap_6 (fun c_6 => ?_) (fun c_6 => ?_)
      · exact absurd c_6 (by rw [nI_pred]; exact nI_ge (by omega) (by omega))
      · refine gg_aldn dc_R_closeGap_9 rfl rfl ?_
        refine gg_ildn dc_R_closeGap_10 rfl rfl ?_
        refine gg_aldn dc_R_closeGap_11 rfl rfl ?_
        refine gg_ildn dc_R_closeGap_12 rfl rfl ?_
        refine gg_iconst (v := 1) dc_R_closeGap_13 (by decide) ?_
        refine gg_iadd dc_R_closeGap_14 ?_
        refine gg_okS (sp_R_atE h (by omega) (nI_1 j) (by omega)) dc_R_closeGap_15 ml_R_19 ce_R_at ⟨Nat.le_of_ble_eq_true rfl, Nat.le_of_ble_eq_true rfl⟩ rfl (Nat.le_of_ble_eq_true rfl) ⟨rfl, rfl⟩ ⟨Nat.le_of_ble_eq_true rfl, Nat.le_of_ble_eq_true rfl⟩ ?_
        refine gg_okSv (sp_R_putE h (by omega) rfl (by omega)) dc_R_closeGap_18 ml_R_25 ce_R_put ⟨Nat.le_of_ble_eq_true rfl, Nat.le_of_ble_eq_true rfl⟩ rfl (Nat.le_of_ble_eq_true rfl) ⟨rfl, rfl⟩ ⟨Nat.le_of_ble_eq_true rfl, Nat.le_of_ble_eq_true rfl⟩ ?_
        refine gg_iinc (i := 3) dc_R_closeGap_21 rfl (Nat.le_of_ble_eq_true rfl) ?_
        dsimp only [List.set]
        rw [show Int32.ofInt 1 = 1 from by decide]
        refine gg_goto dc_R_closeGap_24 ?_
        have e9 : nI j + 1 = nI (j + 1) := nI_1 j
        refine gg_e (ih (j + 1) (by omega)) (by rw [e9]) rfl ?_
        rw [up_va, va_up_self, cg_s (by omega)]
  refine gg_ildn dc_R_closeGap_0 rfl rfl ?_
  refine gg_istn (i := 3) dc_R_closeGap_1 rfl (Nat.le_of_ble_eq_true rfl) ?_
  dsimp only [List.set]
  refine gg_e (loop (n - k) k (by omega) (Nat.le_refl k)) rfl rfl ?_
  rw [cg_0, va_id]
set_option maxRecDepth 100000 in
set_option maxHeartbeats 4000000 in
theorem sp_R_copy {Γ : cx_T} {τ : Nat × (Nat → sh_T)} {ν : Nat → Nat → Int32} {a0 a1 n : Nat} (h0 : τ.2 a0 = .inl (0, n)) (h1 : τ.2 a1 = .inl (0, n)) (hn : n < 2 ^ 31) : mt_P Γ mk_R_copy [.ref a0, .ref a1] (τ, ν) (fun v μ' => v = none ∧ μ' = (τ, va_up ν a1 (va_cpy (ν a0) (ν a1) 0 0 n))) := by
  refine mt_of (L := [some (.ref a0), some (.ref a1)]) (by decide +kernel) (by simp [Value.category]) (Nat.le_of_ble_eq_true rfl) (lc_2_2 ()) ?_
  have hm : mn_I (Int32.ofNat n) (Int32.ofNat n) = nI n := by unfold mn_I; split <;> rfl
  refine gg_aldn dc_R_copy_0 rfl rfl ?_
  refine gg_iconst (v := 0) dc_R_copy_1 (by decide) ?_
  refine gg_aldn dc_R_copy_2 rfl rfl ?_
  refine gg_iconst (v := 0) dc_R_copy_3 (by decide) ?_
  refine gg_aldn dc_R_copy_4 rfl rfl ?_
  refine gg_alen dc_R_copy_5 (Or.inl h0) rfl ?_
  refine gg_aldn dc_R_copy_6 rfl rfl ?_
  refine gg_alen dc_R_copy_7 (Or.inl h1) rfl ?_
  refine gg_okS (sp_J_min) dc_R_copy_8 ml_R_7 ce_J_min ⟨Nat.le_of_ble_eq_true rfl, Nat.le_of_ble_eq_true rfl⟩ rfl (Nat.le_of_ble_eq_true rfl) ⟨rfl, rfl⟩ ⟨Nat.le_of_ble_eq_true rfl, Nat.le_of_ble_eq_true rfl⟩ ?_
  refine gg_copy dc_R_copy_11 ac_R h0 h1 (by decide) (by decide) (by rw [hm]; exact nI_pos hn) ?_ ?_ ⟨Nat.le_of_ble_eq_true rfl, Nat.le_of_ble_eq_true rfl⟩ ?_
  · rw [hm, nI_clamp hn]; show 0 + n ≤ n; omega
  · rw [hm, nI_clamp hn]; show 0 + n ≤ n; omega
  rw [hm, nI_clamp hn]
  exact gg_vret dc_R_copy_14 rfl ⟨Nat.le_of_ble_eq_true rfl, Nat.le_of_ble_eq_true rfl⟩ ⟨rfl, rfl⟩
end
section
/-! points by place -/
def ut_N (P : Nat → Int32) (x : Int32) : Nat → Nat → Nat
  | 0, i => i
  | d + 1, i => if P i ≤ x then ut_N P x d (i + 1) else i
theorem ut_le (P : Nat → Int32) (x : Int32) : ∀ (d i : Nat), i ≤ ut_N P x d i ∧ ut_N P x d i ≤ i + d
  | 0, i => ⟨Nat.le_refl _, Nat.le_refl _⟩
  | d + 1, i => by
    unfold ut_N
    split
    · have := ut_le P x d (i + 1)
      omega
    · omega
theorem ut_s {P : Nat → Int32} {x : Int32} {d i : Nat} (h : P i ≤ x) : ut_N P x (d + 1) i = ut_N P x d (i + 1) := by
  show (if P i ≤ x then _ else _) = _
  rw [if_pos h]
theorem ut_e {P : Nat → Int32} {x : Int32} {d i : Nat} (h : ¬ P i ≤ x) : ut_N P x (d + 1) i = i := by
  show (if P i ≤ x then _ else _) = _
  rw [if_neg h]
def pk_I (u : Nat) (V : Nat → Int32) (d : Int32) : Int32 := match u with
  | 0 => d
  | k + 1 => V k
def ha_N (u : Nat) (P : Nat → Int32) (x : Int32) : Int32 := match u with
  | 0 => 0
  | k + 1 => if P k = x then 1 else 0
/-- a row of points or commands: its shape -/
def sh_Pt (sh : Nat → sh_T) (q : Nat) : Prop := sh q = .inr (.inr (2, [some (some (q + 1)), some (some (q + 2)), none])) ∧ sh (q + 1) = .inl (0, 10) ∧ sh (q + 2) = .inl (0, 10)
def sh_Cm (sh : Nat → sh_T) (q : Nat) : Prop := sh q = .inr (.inr (1, [some (some (q + 1)), some (some (q + 2)), none])) ∧ sh (q + 1) = .inl (0, 8) ∧ sh (q + 2) = .inl (0, 8)
def pt_set (ν : Nat → Nat → Int32) (q : Nat) (s : Int32) (P V : Nat → Int32) : Nat → Nat → Int32 := va_up (va_up (up_2 ν q 2 s) (q + 1) P) (q + 2) V
def in_F (g : Nat → Int32) (u n : Nat) (x : Int32) : Nat → Int32 := upd (og_I g u n) u x
theorem lu_cases {u : Nat} : (nI u - 1 = -1 ∧ u = 0) ∨ ∃ k, u = k + 1 ∧ nI u - 1 = nI k := by
  cases u with
  | zero => exact Or.inl ⟨by decide, rfl⟩
  | succ k => exact Or.inr ⟨k, rfl, nI_pred k⟩
set_option maxRecDepth 100000 in
set_option maxHeartbeats 4000000 in
theorem sp_P_lastUpTo {Γ : cx_T} {τ : Nat × (Nat → sh_T)} {ν : Nat → Nat → Int32} {q n : Nat} {x : Int32} (hq : sh_Pt τ.2 q) (hn : ν q 2 = nI n) (h10 : n ≤ 10) : mt_P Γ mk_P_lastUpTo [.ref q, .int x] (τ, ν) (fun v μ' => v = some (.int (nI (ut_N (ν (q + 1)) x n 0) - 1)) ∧ μ' = (τ, ν)) := by
  refine mt_of (L := [some (.ref q), some (.int x), none, none]) (by decide +kernel) (by simp [Value.category]) (Nat.le_of_ble_eq_true rfl) (lc_2_4 ()) ?_
  obtain ⟨h0, h1, h2⟩ := id hq
  have loop : ∀ (d i : Nat), i + d = n → ut_N (ν (q + 1)) x d i = ut_N (ν (q + 1)) x n 0 → gg_P Γ mk_P_lastUpTo (fun v μ' => v = some (.int (nI (ut_N (ν (q + 1)) x n 0) - 1)) ∧ μ' = (τ, ν)) 0 0 4 [some (.ref q), some (.int x), some (.int (nI i - 1)), some (.int (nI i))] [] (τ, ν) := by
    intro d
    induction d with
    | zero =>
      intro i hi hu
      have hi : i = n := by omega
      subst hi
      refine gg_ildn dc_P_lastUpTo_4 rfl rfl ?_
      refine gg_aldn dc_P_lastUpTo_5 rfl rfl ?_
      refine gx_geti dc_P_lastUpTo_6 lf_P_18 h0 rfl ?_
      rw [hn]
      refine gg_icge dc_P_lastUpTo_9 (fun c_9 => ?_) (fun c_9 => ?_)
      · refine gg_ildn dc_P_lastUpTo_39 rfl rfl ?_
        exact gg_iret dc_P_lastUpTo_40 rfl ⟨Nat.le_of_ble_eq_true rfl, Nat.le_of_ble_eq_true rfl⟩ (⟨by rw [← hu]; rfl, rfl⟩)
      · exact absurd (Int32.le_refl _) c_9
    | succ d ih =>
      intro i hi hu
      refine gg_ildn dc_P_lastUpTo_4 rfl rfl ?_
      refine gg_aldn dc_P_lastUpTo_5 rfl rfl ?_
      refine gx_geti dc_P_lastUpTo_6 lf_P_18 h0 rfl ?_
      rw [hn]
      refine gg_icge dc_P_lastUpTo_9 (fun c_9 => ?_) (fun c_9 => ?_)
      · exact absurd c_9 (nI_ge (by omega) (by omega))
      · refine gg_ildn dc_P_lastUpTo_12 rfl rfl ?_
        refine gg_aldn dc_P_lastUpTo_13 rfl rfl ?_
        refine gg_getr dc_P_lastUpTo_14 lf_P_11 h0 rfl ?_
        refine gg_alen dc_P_lastUpTo_17 (Or.inl h1) rfl ?_
        refine gg_icge dc_P_lastUpTo_18 (fun c_18 => ?_) (fun c_18 => ?_)
        · exact absurd c_18 (nI_ge (a := i) (b := 10) (by omega) (by omega))
        · refine gg_aldn dc_P_lastUpTo_21 rfl rfl ?_
          refine gg_getr dc_P_lastUpTo_22 lf_P_11 h0 rfl ?_
          refine gg_ildn dc_P_lastUpTo_25 rfl rfl ?_
          refine gx_iald dc_P_lastUpTo_26 h1 (vp_in_nI (by omega) (by omega)) ?_
          rw [nI_clamp (by omega)]
          refine gg_ildn dc_P_lastUpTo_27 rfl rfl ?_
          refine gg_icgt dc_P_lastUpTo_28 (fun c_28 => ?_) (fun c_28 => ?_)
          · refine gg_ildn dc_P_lastUpTo_39 rfl rfl ?_
            exact gg_iret dc_P_lastUpTo_40 rfl ⟨Nat.le_of_ble_eq_true rfl, Nat.le_of_ble_eq_true rfl⟩ (⟨by rw [← hu, ut_e (Int32.not_le.mpr c_28)], rfl⟩)
          · refine gg_ildn dc_P_lastUpTo_31 rfl rfl ?_
            refine gg_istn (i := 2) dc_P_lastUpTo_32 rfl (Nat.le_of_ble_eq_true rfl) ?_
            dsimp only [List.set]
            refine gg_iinc (i := 3) dc_P_lastUpTo_33 rfl (Nat.le_of_ble_eq_true rfl) ?_
            dsimp only [List.set]
            rw [show Int32.ofInt 1 = 1 from by decide]
            refine gg_goto dc_P_lastUpTo_36 ?_
            refine gg_e (ih (i + 1) (by omega) (by rw [← hu, ut_s (Int32.not_lt.mp c_28)])) (by rw [nI_pred, nI_1]) rfl rfl
  refine gg_iconst (v := (-1)) dc_P_lastUpTo_0 (by decide) ?_
  refine gg_istn (i := 2) dc_P_lastUpTo_1 rfl (Nat.le_of_ble_eq_true rfl) ?_
  dsimp only [List.set]
  refine gg_iconst (v := 0) dc_P_lastUpTo_2 (by decide) ?_
  refine gg_istn (i := 3) dc_P_lastUpTo_3 rfl (Nat.le_of_ble_eq_true rfl) ?_
  dsimp only [List.set]
  refine gg_e (loop n 0 (by omega) rfl) (by rw [show nI 0 - 1 = -1 by decide, nI_0]) rfl rfl
theorem sp_P_lu0 {Γ : cx_T} {τ : Nat × (Nat → sh_T)} {ν : Nat → Nat → Int32} {q n : Nat} {x : Int32} (hq : sh_Pt τ.2 q) (hn : ν q 2 = nI n) (h10 : n ≤ 10) (hu : ut_N (ν (q + 1)) x n 0 = 0) : mt_P Γ mk_P_lastUpTo [.ref q, .int x] (τ, ν) (fun v μ' => v = some (.int (-1)) ∧ μ' = (τ, ν)) := by
  have h := sp_P_lastUpTo (Γ := Γ) (x := x) hq hn h10
  rw [hu] at h
  exact h
theorem sp_P_luK {Γ : cx_T} {τ : Nat × (Nat → sh_T)} {ν : Nat → Nat → Int32} {q n : Nat} {x : Int32} (hq : sh_Pt τ.2 q) (hn : ν q 2 = nI n) (h10 : n ≤ 10) {k : Nat} (hu : ut_N (ν (q + 1)) x n 0 = k + 1) : mt_P Γ mk_P_lastUpTo [.ref q, .int x] (τ, ν) (fun v μ' => v = some (.int (nI k)) ∧ μ' = (τ, ν)) := by
  have h := sp_P_lastUpTo (Γ := Γ) (x := x) hq hn h10
  rw [hu, nI_pred] at h
  exact h
set_option maxRecDepth 100000 in
set_option maxHeartbeats 4000000 in
theorem sp_P_isAt0 {Γ : cx_T} {τ : Nat × (Nat → sh_T)} {ν : Nat → Nat → Int32} {q : Nat} {x : Int32} : mt_P Γ mk_P_isAt [.ref q, .int (-1), .int x] (τ, ν) (fun v μ' => v = some (.int (0)) ∧ μ' = (τ, ν)) := by
  refine mt_of (L := [some (.ref q), some (.int (-1)), some (.int x)]) (by decide +kernel) (by simp [Value.category]) (Nat.le_of_ble_eq_true rfl) (lc_3_3 ()) ?_
  refine gg_ildn dc_P_isAt_0 rfl rfl ?_
  refine gg_iflt dc_P_isAt_1 (fun c_1 => ?_) (fun c_1 => ?_)
  · refine gg_iconst (v := 0) dc_P_isAt_20 (by decide) ?_
    exact gg_zret dc_P_isAt_21 rfl (by first | exact Or.inl rfl | exact Or.inr rfl | assumption) ⟨Nat.le_of_ble_eq_true rfl, Nat.le_of_ble_eq_true rfl⟩ (⟨rfl, rfl⟩)
  · exact absurd (by decide) c_1
set_option maxRecDepth 100000 in
set_option maxHeartbeats 4000000 in
theorem sp_P_isAtK {Γ : cx_T} {τ : Nat × (Nat → sh_T)} {ν : Nat → Nat → Int32} {q k : Nat} {x : Int32} (hq : sh_Pt τ.2 q) (hk : k < 10) : mt_P Γ mk_P_isAt [.ref q, .int (nI k), .int x] (τ, ν) (fun v μ' => v = some (.int (if ν (q + 1) k = x then 1 else 0)) ∧ μ' = (τ, ν)) := by
  refine mt_of (L := [some (.ref q), some (.int (nI k)), some (.int x)]) (by decide +kernel) (by simp [Value.category]) (Nat.le_of_ble_eq_true rfl) (lc_3_3 ()) ?_
  obtain ⟨h0, h1, h2⟩ := id hq
  refine gg_ildn dc_P_isAt_0 rfl rfl ?_
  refine gg_iflt dc_P_isAt_1 (fun c_1 => ?_) (fun c_1 => ?_)
  · exact absurd c_1 (nI_pos (by omega))
  · refine gg_aldn dc_P_isAt_4 rfl rfl ?_
    refine gg_getr dc_P_isAt_5 lf_P_11 h0 rfl ?_
    refine gg_ildn dc_P_isAt_8 rfl rfl ?_
    refine gg_okS (sp_R_atE h1 (by omega) rfl hk) dc_P_isAt_9 ml_P_36 ce_R_at ⟨Nat.le_of_ble_eq_true rfl, Nat.le_of_ble_eq_true rfl⟩ rfl (Nat.le_of_ble_eq_true rfl) ⟨rfl, rfl⟩ ⟨Nat.le_of_ble_eq_true rfl, Nat.le_of_ble_eq_true rfl⟩ ?_
    refine gg_ildn dc_P_isAt_12 rfl rfl ?_
    refine gg_icne dc_P_isAt_13 (fun c_13 => ?_) (fun c_13 => ?_)
    · refine gg_iconst (v := 0) dc_P_isAt_20 (by decide) ?_
      exact gg_zret dc_P_isAt_21 rfl (by first | exact Or.inl rfl | exact Or.inr rfl | assumption) ⟨Nat.le_of_ble_eq_true rfl, Nat.le_of_ble_eq_true rfl⟩ (⟨by rw [if_neg c_13], rfl⟩)
    · refine gg_iconst (v := 1) dc_P_isAt_16 (by decide) ?_
      refine gg_goto dc_P_isAt_17 ?_
      exact gg_zret dc_P_isAt_21 rfl (by first | exact Or.inl rfl | exact Or.inr rfl | assumption) ⟨Nat.le_of_ble_eq_true rfl, Nat.le_of_ble_eq_true rfl⟩ (⟨by rw [if_pos (by first | exact c_13 | exact Classical.not_not.mp c_13)], rfl⟩)
set_option maxRecDepth 100000 in
set_option maxHeartbeats 4000000 in
theorem sp_P_valueUpTo {Γ : cx_T} {τ : Nat × (Nat → sh_T)} {ν : Nat → Nat → Int32} {q n : Nat} {x : Int32} (hq : sh_Pt τ.2 q) (hn : ν q 2 = nI n) (h10 : n ≤ 10) {d : Int32} : mt_P Γ mk_P_valueUpTo [.ref q, .int x, .int d] (τ, ν) (fun v μ' => v = some (.int (pk_I (ut_N (ν (q + 1)) x n 0) (ν (q + 2)) d)) ∧ μ' = (τ, ν)) := by
  refine mt_of (L := [some (.ref q), some (.int x), some (.int d), none]) (by decide +kernel) (by simp [Value.category]) (Nat.le_of_ble_eq_true rfl) (lc_3_4 ()) ?_
  obtain ⟨h0, h1, h2⟩ := id hq
  have hle := (ut_le (ν (q + 1)) x n 0).2
  rcases hu : ut_N (ν (q + 1)) x n 0 with _ | k
  · refine gg_aldn dc_P_valueUpTo_0 rfl rfl ?_
    refine gg_ildn dc_P_valueUpTo_1 rfl rfl ?_
    refine gg_okV (sp_P_lu0 hq hn h10 hu) dc_P_valueUpTo_2 ml_P_28 ce_P_lastUpTo ⟨Nat.le_of_ble_eq_true rfl, Nat.le_of_ble_eq_true rfl⟩ h0 rfl rfl (Nat.le_of_ble_eq_true rfl) ⟨rfl, rfl⟩ ⟨Nat.le_of_ble_eq_true rfl, Nat.le_of_ble_eq_true rfl⟩ ?_
    refine gg_istn (i := 3) dc_P_valueUpTo_5 rfl (Nat.le_of_ble_eq_true rfl) ?_
    dsimp only [List.set]
    refine gg_ildn dc_P_valueUpTo_6 rfl rfl ?_
    refine gg_iflt dc_P_valueUpTo_7 (fun c_7 => ?_) (fun c_7 => ?_)
    · refine gg_ildn dc_P_valueUpTo_21 rfl rfl ?_
      exact gg_iret dc_P_valueUpTo_22 rfl ⟨Nat.le_of_ble_eq_true rfl, Nat.le_of_ble_eq_true rfl⟩ (⟨rfl, rfl⟩)
    · exact absurd (by decide) c_7
  · have hk : k < n := by omega
    refine gg_aldn dc_P_valueUpTo_0 rfl rfl ?_
    refine gg_ildn dc_P_valueUpTo_1 rfl rfl ?_
    refine gg_okV (sp_P_luK hq hn h10 hu) dc_P_valueUpTo_2 ml_P_28 ce_P_lastUpTo ⟨Nat.le_of_ble_eq_true rfl, Nat.le_of_ble_eq_true rfl⟩ h0 rfl rfl (Nat.le_of_ble_eq_true rfl) ⟨rfl, rfl⟩ ⟨Nat.le_of_ble_eq_true rfl, Nat.le_of_ble_eq_true rfl⟩ ?_
    refine gg_istn (i := 3) dc_P_valueUpTo_5 rfl (Nat.le_of_ble_eq_true rfl) ?_
    dsimp only [List.set]
    refine gg_ildn dc_P_valueUpTo_6 rfl rfl ?_
    refine gg_iflt dc_P_valueUpTo_7 (fun c_7 => ?_) (fun c_7 => ?_)
    · exact absurd c_7 (nI_pos (by omega))
    · refine gg_aldn dc_P_valueUpTo_10 rfl rfl ?_
      refine gg_getr dc_P_valueUpTo_11 lf_P_15 h0 rfl ?_
      refine gg_ildn dc_P_valueUpTo_14 rfl rfl ?_
      refine gg_okS (sp_R_atE h2 (by omega) rfl (by omega)) dc_P_valueUpTo_15 ml_P_36 ce_R_at ⟨Nat.le_of_ble_eq_true rfl, Nat.le_of_ble_eq_true rfl⟩ rfl (Nat.le_of_ble_eq_true rfl) ⟨rfl, rfl⟩ ⟨Nat.le_of_ble_eq_true rfl, Nat.le_of_ble_eq_true rfl⟩ ?_
      refine gg_goto dc_P_valueUpTo_18 ?_
      exact gg_iret dc_P_valueUpTo_22 rfl ⟨Nat.le_of_ble_eq_true rfl, Nat.le_of_ble_eq_true rfl⟩ (⟨rfl, rfl⟩)
set_option maxRecDepth 100000 in
set_option maxHeartbeats 4000000 in
theorem sp_P_placeUpTo {Γ : cx_T} {τ : Nat × (Nat → sh_T)} {ν : Nat → Nat → Int32} {q n : Nat} {x : Int32} (hq : sh_Pt τ.2 q) (hn : ν q 2 = nI n) (h10 : n ≤ 10) : mt_P Γ mk_P_placeUpTo [.ref q, .int x] (τ, ν) (fun v μ' => v = some (.int (pk_I (ut_N (ν (q + 1)) x n 0) (ν (q + 1)) (-1000000000))) ∧ μ' = (τ, ν)) := by
  refine mt_of (L := [some (.ref q), some (.int x), none]) (by decide +kernel) (by simp [Value.category]) (Nat.le_of_ble_eq_true rfl) (lc_2_3 ()) ?_
  obtain ⟨h0, h1, h2⟩ := id hq
  have hle := (ut_le (ν (q + 1)) x n 0).2
  rcases hu : ut_N (ν (q + 1)) x n 0 with _ | k
  · refine gg_aldn dc_P_placeUpTo_0 rfl rfl ?_
    refine gg_ildn dc_P_placeUpTo_1 rfl rfl ?_
    refine gg_okV (sp_P_lu0 hq hn h10 hu) dc_P_placeUpTo_2 ml_P_28 ce_P_lastUpTo ⟨Nat.le_of_ble_eq_true rfl, Nat.le_of_ble_eq_true rfl⟩ h0 rfl rfl (Nat.le_of_ble_eq_true rfl) ⟨rfl, rfl⟩ ⟨Nat.le_of_ble_eq_true rfl, Nat.le_of_ble_eq_true rfl⟩ ?_
    refine gg_istn (i := 2) dc_P_placeUpTo_5 rfl (Nat.le_of_ble_eq_true rfl) ?_
    dsimp only [List.set]
    refine gg_ildn dc_P_placeUpTo_6 rfl rfl ?_
    refine gg_iflt dc_P_placeUpTo_7 (fun c_7 => ?_) (fun c_7 => ?_)
    · refine gg_ldc dc_P_placeUpTo_21 lk_P_40 ?_
      exact gg_iret dc_P_placeUpTo_23 rfl ⟨Nat.le_of_ble_eq_true rfl, Nat.le_of_ble_eq_true rfl⟩ (⟨rfl, rfl⟩)
    · exact absurd (by decide) c_7
  · have hk : k < n := by omega
    refine gg_aldn dc_P_placeUpTo_0 rfl rfl ?_
    refine gg_ildn dc_P_placeUpTo_1 rfl rfl ?_
    refine gg_okV (sp_P_luK hq hn h10 hu) dc_P_placeUpTo_2 ml_P_28 ce_P_lastUpTo ⟨Nat.le_of_ble_eq_true rfl, Nat.le_of_ble_eq_true rfl⟩ h0 rfl rfl (Nat.le_of_ble_eq_true rfl) ⟨rfl, rfl⟩ ⟨Nat.le_of_ble_eq_true rfl, Nat.le_of_ble_eq_true rfl⟩ ?_
    refine gg_istn (i := 2) dc_P_placeUpTo_5 rfl (Nat.le_of_ble_eq_true rfl) ?_
    dsimp only [List.set]
    refine gg_ildn dc_P_placeUpTo_6 rfl rfl ?_
    refine gg_iflt dc_P_placeUpTo_7 (fun c_7 => ?_) (fun c_7 => ?_)
    · exact absurd c_7 (nI_pos (by omega))
    · refine gg_aldn dc_P_placeUpTo_10 rfl rfl ?_
      refine gg_getr dc_P_placeUpTo_11 lf_P_11 h0 rfl ?_
      refine gg_ildn dc_P_placeUpTo_14 rfl rfl ?_
      refine gg_okS (sp_R_atE h1 (by omega) rfl (by omega)) dc_P_placeUpTo_15 ml_P_36 ce_R_at ⟨Nat.le_of_ble_eq_true rfl, Nat.le_of_ble_eq_true rfl⟩ rfl (Nat.le_of_ble_eq_true rfl) ⟨rfl, rfl⟩ ⟨Nat.le_of_ble_eq_true rfl, Nat.le_of_ble_eq_true rfl⟩ ?_
      refine gg_goto dc_P_placeUpTo_18 ?_
      exact gg_iret dc_P_placeUpTo_23 rfl ⟨Nat.le_of_ble_eq_true rfl, Nat.le_of_ble_eq_true rfl⟩ (⟨rfl, rfl⟩)
set_option maxRecDepth 100000 in
set_option maxHeartbeats 4000000 in
theorem sp_P_valueAt {Γ : cx_T} {τ : Nat × (Nat → sh_T)} {ν : Nat → Nat → Int32} {q n : Nat} {x : Int32} (hq : sh_Pt τ.2 q) (hn : ν q 2 = nI n) (h10 : n ≤ 10) {d : Int32} : mt_P Γ mk_P_valueAt [.ref q, .int x, .int d] (τ, ν) (fun v μ' => v = some (.int (if ha_N (ut_N (ν (q + 1)) x n 0) (ν (q + 1)) x = 0 then d else pk_I (ut_N (ν (q + 1)) x n 0) (ν (q + 2)) d)) ∧ μ' = (τ, ν)) := by
  refine mt_of (L := [some (.ref q), some (.int x), some (.int d), none]) (by decide +kernel) (by simp [Value.category]) (Nat.le_of_ble_eq_true rfl) (lc_3_4 ()) ?_
  obtain ⟨h0, h1, h2⟩ := id hq
  have hle := (ut_le (ν (q + 1)) x n 0).2
  rcases hu : ut_N (ν (q + 1)) x n 0 with _ | k
  · refine gg_aldn dc_P_valueAt_0 rfl rfl ?_
    refine gg_ildn dc_P_valueAt_1 rfl rfl ?_
    refine gg_okV (sp_P_lu0 hq hn h10 hu) dc_P_valueAt_2 ml_P_28 ce_P_lastUpTo ⟨Nat.le_of_ble_eq_true rfl, Nat.le_of_ble_eq_true rfl⟩ h0 rfl rfl (Nat.le_of_ble_eq_true rfl) ⟨rfl, rfl⟩ ⟨Nat.le_of_ble_eq_true rfl, Nat.le_of_ble_eq_true rfl⟩ ?_
    refine gg_istn (i := 3) dc_P_valueAt_5 rfl (Nat.le_of_ble_eq_true rfl) ?_
    dsimp only [List.set]
    refine gg_aldn dc_P_valueAt_6 rfl rfl ?_
    refine gg_ildn dc_P_valueAt_7 rfl rfl ?_
    refine gg_ildn dc_P_valueAt_8 rfl rfl ?_
    refine gg_okV (sp_P_isAt0) dc_P_valueAt_9 ml_P_32 ce_P_isAt ⟨Nat.le_of_ble_eq_true rfl, Nat.le_of_ble_eq_true rfl⟩ h0 rfl rfl (Nat.le_of_ble_eq_true rfl) ⟨rfl, rfl⟩ ⟨Nat.le_of_ble_eq_true rfl, Nat.le_of_ble_eq_true rfl⟩ ?_
    refine gg_ifeq dc_P_valueAt_12 (fun c_12 => ?_) (fun c_12 => ?_)
    · refine gg_ildn dc_P_valueAt_26 rfl rfl ?_
      exact gg_iret dc_P_valueAt_27 rfl ⟨Nat.le_of_ble_eq_true rfl, Nat.le_of_ble_eq_true rfl⟩ (⟨by unfold ha_N; rw [if_pos rfl], rfl⟩)
    · exact absurd rfl c_12
  · have hk : k < n := by omega
    refine gg_aldn dc_P_valueAt_0 rfl rfl ?_
    refine gg_ildn dc_P_valueAt_1 rfl rfl ?_
    refine gg_okV (sp_P_luK hq hn h10 hu) dc_P_valueAt_2 ml_P_28 ce_P_lastUpTo ⟨Nat.le_of_ble_eq_true rfl, Nat.le_of_ble_eq_true rfl⟩ h0 rfl rfl (Nat.le_of_ble_eq_true rfl) ⟨rfl, rfl⟩ ⟨Nat.le_of_ble_eq_true rfl, Nat.le_of_ble_eq_true rfl⟩ ?_
    refine gg_istn (i := 3) dc_P_valueAt_5 rfl (Nat.le_of_ble_eq_true rfl) ?_
    dsimp only [List.set]
    refine gg_aldn dc_P_valueAt_6 rfl rfl ?_
    refine gg_ildn dc_P_valueAt_7 rfl rfl ?_
    refine gg_ildn dc_P_valueAt_8 rfl rfl ?_
    refine gg_okV (sp_P_isAtK hq (by omega)) dc_P_valueAt_9 ml_P_32 ce_P_isAt ⟨Nat.le_of_ble_eq_true rfl, Nat.le_of_ble_eq_true rfl⟩ h0 rfl rfl (Nat.le_of_ble_eq_true rfl) ⟨rfl, rfl⟩ ⟨Nat.le_of_ble_eq_true rfl, Nat.le_of_ble_eq_true rfl⟩ ?_
    refine gg_ifeq dc_P_valueAt_12 (fun c_12 => ?_) (fun c_12 => ?_)
    · refine gg_ildn dc_P_valueAt_26 rfl rfl ?_
      exact gg_iret dc_P_valueAt_27 rfl ⟨Nat.le_of_ble_eq_true rfl, Nat.le_of_ble_eq_true rfl⟩ (⟨by unfold ha_N; rw [if_pos c_12], rfl⟩)
    · refine gg_aldn dc_P_valueAt_15 rfl rfl ?_
      refine gg_getr dc_P_valueAt_16 lf_P_15 h0 rfl ?_
      refine gg_ildn dc_P_valueAt_19 rfl rfl ?_
      refine gg_okS (sp_R_atE h2 (by omega) rfl (by omega)) dc_P_valueAt_20 ml_P_36 ce_R_at ⟨Nat.le_of_ble_eq_true rfl, Nat.le_of_ble_eq_true rfl⟩ rfl (Nat.le_of_ble_eq_true rfl) ⟨rfl, rfl⟩ ⟨Nat.le_of_ble_eq_true rfl, Nat.le_of_ble_eq_true rfl⟩ ?_
      refine gg_goto dc_P_valueAt_23 ?_
      exact gg_iret dc_P_valueAt_27 rfl ⟨Nat.le_of_ble_eq_true rfl, Nat.le_of_ble_eq_true rfl⟩ (⟨by unfold ha_N; rw [if_neg c_12]; rfl, rfl⟩)
set_option maxRecDepth 100000 in
set_option maxHeartbeats 4000000 in
theorem sp_P_placeAbove {Γ : cx_T} {τ : Nat × (Nat → sh_T)} {ν : Nat → Nat → Int32} {q n : Nat} {x : Int32} (hq : sh_Pt τ.2 q) (hn : ν q 2 = nI n) (h10 : n ≤ 10) : mt_P Γ mk_P_placeAbove [.ref q, .int x] (τ, ν) (fun v μ' => v = some (.int (if ut_N (ν (q + 1)) x n 0 < n then ν (q + 1) (ut_N (ν (q + 1)) x n 0) else 1000000000)) ∧ μ' = (τ, ν)) := by
  refine mt_of (L := [some (.ref q), some (.int x), none]) (by decide +kernel) (by simp [Value.category]) (Nat.le_of_ble_eq_true rfl) (lc_2_3 ()) ?_
  obtain ⟨h0, h1, h2⟩ := id hq
  have hle := (ut_le (ν (q + 1)) x n 0).2
  rcases hu : ut_N (ν (q + 1)) x n 0 with _ | k
  · refine gg_aldn dc_P_placeAbove_0 rfl rfl ?_
    refine gg_ildn dc_P_placeAbove_1 rfl rfl ?_
    refine gg_okV (sp_P_lu0 hq hn h10 hu) dc_P_placeAbove_2 ml_P_28 ce_P_lastUpTo ⟨Nat.le_of_ble_eq_true rfl, Nat.le_of_ble_eq_true rfl⟩ h0 rfl rfl (Nat.le_of_ble_eq_true rfl) ⟨rfl, rfl⟩ ⟨Nat.le_of_ble_eq_true rfl, Nat.le_of_ble_eq_true rfl⟩ ?_
    refine gg_iconst (v := 1) dc_P_placeAbove_5 (by decide) ?_
    refine gg_iadd dc_P_placeAbove_6 ?_
    refine gx_top (show (-1 : Int32) + 1 = nI 0 by decide) ?_
    refine gg_istn (i := 2) dc_P_placeAbove_7 rfl (Nat.le_of_ble_eq_true rfl) ?_
    dsimp only [List.set]
    refine gg_ildn dc_P_placeAbove_8 rfl rfl ?_
    refine gg_aldn dc_P_placeAbove_9 rfl rfl ?_
    refine gx_geti dc_P_placeAbove_10 lf_P_18 h0 rfl ?_
    rw [hn]
    refine gg_icge dc_P_placeAbove_13 (fun c_13 => ?_) (fun c_13 => ?_)
    · refine gg_ldc dc_P_placeAbove_27 lk_P_41 ?_
      exact gg_iret dc_P_placeAbove_29 rfl ⟨Nat.le_of_ble_eq_true rfl, Nat.le_of_ble_eq_true rfl⟩ (⟨by rw [if_neg (fun q => absurd c_13 (nI_ge q (by omega)))], rfl⟩)
    · refine gg_aldn dc_P_placeAbove_16 rfl rfl ?_
      refine gg_getr dc_P_placeAbove_17 lf_P_11 h0 rfl ?_
      refine gg_ildn dc_P_placeAbove_20 rfl rfl ?_
      refine gg_okS (sp_R_atE h1 (by omega) rfl (by omega)) dc_P_placeAbove_21 ml_P_36 ce_R_at ⟨Nat.le_of_ble_eq_true rfl, Nat.le_of_ble_eq_true rfl⟩ rfl (Nat.le_of_ble_eq_true rfl) ⟨rfl, rfl⟩ ⟨Nat.le_of_ble_eq_true rfl, Nat.le_of_ble_eq_true rfl⟩ ?_
      refine gg_goto dc_P_placeAbove_24 ?_
      exact gg_iret dc_P_placeAbove_29 rfl ⟨Nat.le_of_ble_eq_true rfl, Nat.le_of_ble_eq_true rfl⟩ (⟨by rw [if_pos (Classical.not_not.mp fun q => c_13 (nI_le (by omega) (by omega)))], rfl⟩)
  · have hk : k < n := by omega
    refine gg_aldn dc_P_placeAbove_0 rfl rfl ?_
    refine gg_ildn dc_P_placeAbove_1 rfl rfl ?_
    refine gg_okV (sp_P_luK hq hn h10 hu) dc_P_placeAbove_2 ml_P_28 ce_P_lastUpTo ⟨Nat.le_of_ble_eq_true rfl, Nat.le_of_ble_eq_true rfl⟩ h0 rfl rfl (Nat.le_of_ble_eq_true rfl) ⟨rfl, rfl⟩ ⟨Nat.le_of_ble_eq_true rfl, Nat.le_of_ble_eq_true rfl⟩ ?_
    refine gg_iconst (v := 1) dc_P_placeAbove_5 (by decide) ?_
    refine gg_iadd dc_P_placeAbove_6 ?_
    refine gx_top (nI_1 k) ?_
    refine gg_istn (i := 2) dc_P_placeAbove_7 rfl (Nat.le_of_ble_eq_true rfl) ?_
    dsimp only [List.set]
    refine gg_ildn dc_P_placeAbove_8 rfl rfl ?_
    refine gg_aldn dc_P_placeAbove_9 rfl rfl ?_
    refine gx_geti dc_P_placeAbove_10 lf_P_18 h0 rfl ?_
    rw [hn]
    refine gg_icge dc_P_placeAbove_13 (fun c_13 => ?_) (fun c_13 => ?_)
    · refine gg_ldc dc_P_placeAbove_27 lk_P_41 ?_
      exact gg_iret dc_P_placeAbove_29 rfl ⟨Nat.le_of_ble_eq_true rfl, Nat.le_of_ble_eq_true rfl⟩ (⟨by rw [if_neg (fun q => absurd c_13 (nI_ge q (by omega)))], rfl⟩)
    · refine gg_aldn dc_P_placeAbove_16 rfl rfl ?_
      refine gg_getr dc_P_placeAbove_17 lf_P_11 h0 rfl ?_
      refine gg_ildn dc_P_placeAbove_20 rfl rfl ?_
      refine gg_okS (sp_R_atE h1 (by omega) rfl (by have := Classical.not_not.mp (fun q : ¬ k + 1 < n => c_13 (nI_le (by omega) (by omega))); omega)) dc_P_placeAbove_21 ml_P_36 ce_R_at ⟨Nat.le_of_ble_eq_true rfl, Nat.le_of_ble_eq_true rfl⟩ rfl (Nat.le_of_ble_eq_true rfl) ⟨rfl, rfl⟩ ⟨Nat.le_of_ble_eq_true rfl, Nat.le_of_ble_eq_true rfl⟩ ?_
      refine gg_goto dc_P_placeAbove_24 ?_
      exact gg_iret dc_P_placeAbove_29 rfl ⟨Nat.le_of_ble_eq_true rfl, Nat.le_of_ble_eq_true rfl⟩ (⟨by rw [if_pos (Classical.not_not.mp fun q => c_13 (nI_le (by omega) (by omega)))], rfl⟩)
set_option maxRecDepth 100000 in
set_option maxHeartbeats 4000000 in
theorem sp_P_hasRoomFor {Γ : cx_T} {τ : Nat × (Nat → sh_T)} {ν : Nat → Nat → Int32} {q n : Nat} {x : Int32} (hq : sh_Pt τ.2 q) (hn : ν q 2 = nI n) (h10 : n ≤ 10) : mt_P Γ mk_P_hasRoomFor [.ref q, .int x] (τ, ν) (fun v μ' => v = some (.int (if n < 10 then 1 else ha_N (ut_N (ν (q + 1)) x n 0) (ν (q + 1)) x)) ∧ μ' = (τ, ν)) := by
  refine mt_of (L := [some (.ref q), some (.int x)]) (by decide +kernel) (by simp [Value.category]) (Nat.le_of_ble_eq_true rfl) (lc_2_2 ()) ?_
  obtain ⟨h0, h1, h2⟩ := id hq
  have hle := (ut_le (ν (q + 1)) x n 0).2
  rcases hu : ut_N (ν (q + 1)) x n 0 with _ | k
  · refine gg_aldn dc_P_hasRoomFor_0 rfl rfl ?_
    refine gx_geti dc_P_hasRoomFor_1 lf_P_18 h0 rfl ?_
    refine gg_bipush (v := 10) dc_P_hasRoomFor_4 (by decide) ?_
    rw [hn]
    refine gg_iclt dc_P_hasRoomFor_6 (fun c_6 => ?_) (fun c_6 => ?_)
    · refine gg_iconst (v := 1) dc_P_hasRoomFor_22 (by decide) ?_
      refine gg_goto dc_P_hasRoomFor_23 ?_
      exact gg_zret dc_P_hasRoomFor_27 rfl (by first | exact Or.inl rfl | exact Or.inr rfl | assumption) ⟨Nat.le_of_ble_eq_true rfl, Nat.le_of_ble_eq_true rfl⟩ (⟨by rw [if_pos (Classical.not_not.mp fun q => absurd c_6 (nI_nlt (a := n) (b := 10) (by omega) (by omega)))], rfl⟩)
    · refine gg_aldn dc_P_hasRoomFor_9 rfl rfl ?_
      refine gg_aldn dc_P_hasRoomFor_10 rfl rfl ?_
      refine gg_ildn dc_P_hasRoomFor_11 rfl rfl ?_
      refine gg_okV (sp_P_lu0 hq hn h10 hu) dc_P_hasRoomFor_12 ml_P_28 ce_P_lastUpTo ⟨Nat.le_of_ble_eq_true rfl, Nat.le_of_ble_eq_true rfl⟩ h0 rfl rfl (Nat.le_of_ble_eq_true rfl) ⟨rfl, rfl⟩ ⟨Nat.le_of_ble_eq_true rfl, Nat.le_of_ble_eq_true rfl⟩ ?_
      refine gg_ildn dc_P_hasRoomFor_15 rfl rfl ?_
      refine gg_okV (sp_P_isAt0) dc_P_hasRoomFor_16 ml_P_32 ce_P_isAt ⟨Nat.le_of_ble_eq_true rfl, Nat.le_of_ble_eq_true rfl⟩ h0 rfl rfl (Nat.le_of_ble_eq_true rfl) ⟨rfl, rfl⟩ ⟨Nat.le_of_ble_eq_true rfl, Nat.le_of_ble_eq_true rfl⟩ ?_
      refine gg_ifeq dc_P_hasRoomFor_19 (fun c_19 => ?_) (fun c_19 => ?_)
      · refine gg_iconst (v := 0) dc_P_hasRoomFor_26 (by decide) ?_
        exact gg_zret dc_P_hasRoomFor_27 rfl (by first | exact Or.inl rfl | exact Or.inr rfl | assumption) ⟨Nat.le_of_ble_eq_true rfl, Nat.le_of_ble_eq_true rfl⟩ (⟨by rw [if_neg (fun q => c_6 (nI_lt (a := n) (b := 10) (by omega) (by omega)))]; rfl, rfl⟩)
      · refine gg_iconst (v := 1) dc_P_hasRoomFor_22 (by decide) ?_
        refine gg_goto dc_P_hasRoomFor_23 ?_
        exact gg_zret dc_P_hasRoomFor_27 rfl (by first | exact Or.inl rfl | exact Or.inr rfl | assumption) ⟨Nat.le_of_ble_eq_true rfl, Nat.le_of_ble_eq_true rfl⟩ (⟨absurd rfl c_19, rfl⟩)
  · have hk : k < n := by omega
    refine gg_aldn dc_P_hasRoomFor_0 rfl rfl ?_
    refine gx_geti dc_P_hasRoomFor_1 lf_P_18 h0 rfl ?_
    refine gg_bipush (v := 10) dc_P_hasRoomFor_4 (by decide) ?_
    rw [hn]
    refine gg_iclt dc_P_hasRoomFor_6 (fun c_6 => ?_) (fun c_6 => ?_)
    · refine gg_iconst (v := 1) dc_P_hasRoomFor_22 (by decide) ?_
      refine gg_goto dc_P_hasRoomFor_23 ?_
      exact gg_zret dc_P_hasRoomFor_27 rfl (by first | exact Or.inl rfl | exact Or.inr rfl | assumption) ⟨Nat.le_of_ble_eq_true rfl, Nat.le_of_ble_eq_true rfl⟩ (⟨by rw [if_pos (Classical.not_not.mp fun q => absurd c_6 (nI_nlt (a := n) (b := 10) (by omega) (by omega)))], rfl⟩)
    · refine gg_aldn dc_P_hasRoomFor_9 rfl rfl ?_
      refine gg_aldn dc_P_hasRoomFor_10 rfl rfl ?_
      refine gg_ildn dc_P_hasRoomFor_11 rfl rfl ?_
      refine gg_okV (sp_P_luK hq hn h10 hu) dc_P_hasRoomFor_12 ml_P_28 ce_P_lastUpTo ⟨Nat.le_of_ble_eq_true rfl, Nat.le_of_ble_eq_true rfl⟩ h0 rfl rfl (Nat.le_of_ble_eq_true rfl) ⟨rfl, rfl⟩ ⟨Nat.le_of_ble_eq_true rfl, Nat.le_of_ble_eq_true rfl⟩ ?_
      refine gg_ildn dc_P_hasRoomFor_15 rfl rfl ?_
      refine gg_okV (sp_P_isAtK hq (by omega)) dc_P_hasRoomFor_16 ml_P_32 ce_P_isAt ⟨Nat.le_of_ble_eq_true rfl, Nat.le_of_ble_eq_true rfl⟩ h0 rfl rfl (Nat.le_of_ble_eq_true rfl) ⟨rfl, rfl⟩ ⟨Nat.le_of_ble_eq_true rfl, Nat.le_of_ble_eq_true rfl⟩ ?_
      refine gg_ifeq dc_P_hasRoomFor_19 (fun c_19 => ?_) (fun c_19 => ?_)
      · refine gg_iconst (v := 0) dc_P_hasRoomFor_26 (by decide) ?_
        exact gg_zret dc_P_hasRoomFor_27 rfl (by first | exact Or.inl rfl | exact Or.inr rfl | assumption) ⟨Nat.le_of_ble_eq_true rfl, Nat.le_of_ble_eq_true rfl⟩ (⟨by rw [if_neg (fun q => c_6 (nI_lt (a := n) (b := 10) (by omega) (by omega)))]; unfold ha_N; split at c_19 <;> simp_all, rfl⟩)
      · refine gg_iconst (v := 1) dc_P_hasRoomFor_22 (by decide) ?_
        refine gg_goto dc_P_hasRoomFor_23 ?_
        exact gg_zret dc_P_hasRoomFor_27 rfl (by first | exact Or.inl rfl | exact Or.inr rfl | assumption) ⟨Nat.le_of_ble_eq_true rfl, Nat.le_of_ble_eq_true rfl⟩ (⟨by rw [if_neg (fun q => c_6 (nI_lt (a := n) (b := 10) (by omega) (by omega)))]; unfold ha_N; split at c_19 <;> simp_all, rfl⟩)
end
section
/-! points and commands: what changes them -/
theorem sp_P_isAtN {Γ : cx_T} {τ : Nat × (Nat → sh_T)} {ν : Nat → Nat → Int32} {q k : Nat} {x : Int32} (hq : sh_Pt τ.2 q) (hk : k < 10) (hp : ¬ ν (q + 1) k = x) : mt_P Γ mk_P_isAt [.ref q, .int (nI k), .int x] (τ, ν) (fun v μ' => v = some (.int 0) ∧ μ' = (τ, ν)) := by
  have h := sp_P_isAtK (Γ := Γ) (ν := ν) (x := x) hq hk
  rw [if_neg hp] at h
  exact h
theorem sp_P_isAtY {Γ : cx_T} {τ : Nat × (Nat → sh_T)} {ν : Nat → Nat → Int32} {q k : Nat} {x : Int32} (hq : sh_Pt τ.2 q) (hk : k < 10) (hp : ν (q + 1) k = x) : mt_P Γ mk_P_isAt [.ref q, .int (nI k), .int x] (τ, ν) (fun v μ' => v = some (.int 1) ∧ μ' = (τ, ν)) := by
  have h := sp_P_isAtK (Γ := Γ) (ν := ν) (x := x) hq hk
  rw [if_pos hp] at h
  exact h
theorem ha_s {k : Nat} {P : Nat → Int32} {x : Int32} : ha_N (k + 1) P x = if P k = x then 1 else 0 := rfl
def cp_N (f g : Nat → Int32) (n : Nat) : Nat → Int32 := fun k => if k < n then f k else g k
theorem cp_va (f g : Nat → Int32) (n : Nat) : va_cpy f g 0 0 n = cp_N f g n := by
  funext k; unfold va_cpy cp_N; simp
def pr_N (R : Nat → Int32) (p : Int32) : Nat → Nat → Nat
  | 0, i => i
  | d + 1, i => if R i < p then i else pr_N R p d (i + 1)
theorem pr_le (R : Nat → Int32) (p : Int32) : ∀ (d i : Nat), i ≤ pr_N R p d i ∧ pr_N R p d i ≤ i + d
  | 0, i => ⟨Nat.le_refl _, Nat.le_refl _⟩
  | d + 1, i => by
    unfold pr_N
    split
    · omega
    · have := pr_le R p d (i + 1)
      omega
theorem pr_s {P : Nat → Int32} {x : Int32} {d i : Nat} (h : ¬ P i < x) : pr_N P x (d + 1) i = pr_N P x d (i + 1) := by
  show (if P i < x then _ else _) = _
  rw [if_neg h]
theorem pr_e {P : Nat → Int32} {x : Int32} {d i : Nat} (h : P i < x) : pr_N P x (d + 1) i = i := by
  show (if P i < x then _ else _) = _
  rw [if_pos h]
set_option maxRecDepth 100000 in
set_option maxHeartbeats 4000000 in
theorem sp_P_putN {Γ : cx_T} {τ : Nat × (Nat → sh_T)} {ν : Nat → Nat → Int32} {q n : Nat} {x : Int32} (hq : sh_Pt τ.2 q) (hn : ν q 2 = nI n) (h10 : n ≤ 10) {d : Int32} (hh : ha_N (ut_N (ν (q + 1)) x n 0) (ν (q + 1)) x = 0) (hlt : n < 10) : mt_P Γ mk_P_put [.ref q, .int x, .int d] (τ, ν) (fun v μ' => v = none ∧ μ' = (τ, pt_set ν q (nI (n + 1)) (in_F (ν (q + 1)) (ut_N (ν (q + 1)) x n 0) n x) (in_F (ν (q + 2)) (ut_N (ν (q + 1)) x n 0) n d))) := by
  refine mt_of (L := [some (.ref q), some (.int x), some (.int d), none]) (by decide +kernel) (by simp [Value.category]) (Nat.le_of_ble_eq_true rfl) (lc_3_4 ()) ?_
  obtain ⟨h0, h1, h2⟩ := id hq
  have hle := (ut_le (ν (q + 1)) x n 0).2
  rcases hu : ut_N (ν (q + 1)) x n 0 with _ | k
  · refine gg_aldn dc_P_put_0 rfl rfl ?_
    refine gg_ildn dc_P_put_1 rfl rfl ?_
    refine gg_okV (sp_P_lu0 hq hn h10 hu) dc_P_put_2 ml_P_28 ce_P_lastUpTo ⟨Nat.le_of_ble_eq_true rfl, Nat.le_of_ble_eq_true rfl⟩ h0 rfl rfl (Nat.le_of_ble_eq_true rfl) ⟨rfl, rfl⟩ ⟨Nat.le_of_ble_eq_true rfl, Nat.le_of_ble_eq_true rfl⟩ ?_
    refine gg_istn (i := 3) dc_P_put_5 rfl (Nat.le_of_ble_eq_true rfl) ?_
    dsimp only [List.set]
    refine gg_aldn dc_P_put_6 rfl rfl ?_
    refine gg_ildn dc_P_put_7 rfl rfl ?_
    refine gg_ildn dc_P_put_8 rfl rfl ?_
    refine gg_okV (sp_P_isAt0) dc_P_put_9 ml_P_32 ce_P_isAt ⟨Nat.le_of_ble_eq_true rfl, Nat.le_of_ble_eq_true rfl⟩ h0 rfl rfl (Nat.le_of_ble_eq_true rfl) ⟨rfl, rfl⟩ ⟨Nat.le_of_ble_eq_true rfl, Nat.le_of_ble_eq_true rfl⟩ ?_
    refine gg_ifne dc_P_put_12 (fun c_12 => ?_) (fun c_12 => ?_)
    · exact absurd rfl c_12
    · refine gg_iinc (i := 3) dc_P_put_15 rfl (Nat.le_of_ble_eq_true rfl) ?_
      dsimp only [List.set]
      rw [show Int32.ofInt 1 = 1 from by decide]
      rw [show (-1 : Int32) + 1 = nI 0 by decide]
      refine gg_aldn dc_P_put_18 rfl rfl ?_
      refine gg_getr dc_P_put_19 lf_P_11 h0 rfl ?_
      refine gg_ildn dc_P_put_22 rfl rfl ?_
      refine gg_aldn dc_P_put_23 rfl rfl ?_
      refine gx_geti dc_P_put_24 lf_P_18 h0 rfl ?_
      rw [hn]
      refine gg_okSv (sp_R_openGap (by first | exact h1 | exact h2) (by omega) (show 0 ≤ n by omega) (by omega)) dc_P_put_27 ml_P_48 ce_R_openGap ⟨Nat.le_of_ble_eq_true rfl, Nat.le_of_ble_eq_true rfl⟩ rfl (Nat.le_of_ble_eq_true rfl) ⟨rfl, rfl⟩ ⟨Nat.le_of_ble_eq_true rfl, Nat.le_of_ble_eq_true rfl⟩ ?_
      refine gg_aldn dc_P_put_30 rfl rfl ?_
      refine gg_getr dc_P_put_31 lf_P_15 h0 rfl ?_
      refine gg_ildn dc_P_put_34 rfl rfl ?_
      refine gg_aldn dc_P_put_35 rfl rfl ?_
      refine gx_geti dc_P_put_36 lf_P_18 h0 rfl ?_
      rw [va_up_ne _ _ (show q ≠ q + 1 by omega), hn]
      refine gg_okSv (sp_R_openGap (by first | exact h1 | exact h2) (by omega) (show 0 ≤ n by omega) (by omega)) dc_P_put_39 ml_P_48 ce_R_openGap ⟨Nat.le_of_ble_eq_true rfl, Nat.le_of_ble_eq_true rfl⟩ rfl (Nat.le_of_ble_eq_true rfl) ⟨rfl, rfl⟩ ⟨Nat.le_of_ble_eq_true rfl, Nat.le_of_ble_eq_true rfl⟩ ?_
      refine gg_aldn dc_P_put_42 rfl rfl ?_
      refine gg_getr dc_P_put_43 lf_P_11 h0 rfl ?_
      refine gg_ildn dc_P_put_46 rfl rfl ?_
      refine gg_ildn dc_P_put_47 rfl rfl ?_
      refine gg_okSv (sp_R_putE h1 (by omega) rfl (by omega)) dc_P_put_48 ml_P_52 ce_R_put ⟨Nat.le_of_ble_eq_true rfl, Nat.le_of_ble_eq_true rfl⟩ rfl (Nat.le_of_ble_eq_true rfl) ⟨rfl, rfl⟩ ⟨Nat.le_of_ble_eq_true rfl, Nat.le_of_ble_eq_true rfl⟩ ?_
      refine gg_aldn dc_P_put_51 rfl rfl ?_
      refine gg_dup dc_P_put_52 rfl ?_
      refine gx_geti dc_P_put_53 lf_P_18 h0 rfl ?_
      refine gg_iconst (v := 1) dc_P_put_56 (by decide) ?_
      refine gg_iadd dc_P_put_57 ?_
      refine gg_puti dc_P_put_58 lp_P_18 h0 rfl ?_
      refine gg_aldn dc_P_put_61 rfl rfl ?_
      refine gg_getr dc_P_put_62 lf_P_15 h0 rfl ?_
      refine gg_ildn dc_P_put_65 rfl rfl ?_
      refine gg_ildn dc_P_put_66 rfl rfl ?_
      refine gg_okSv (sp_R_putE h2 (by omega) rfl (by omega)) dc_P_put_67 ml_P_52 ce_R_put ⟨Nat.le_of_ble_eq_true rfl, Nat.le_of_ble_eq_true rfl⟩ rfl (Nat.le_of_ble_eq_true rfl) ⟨rfl, rfl⟩ ⟨Nat.le_of_ble_eq_true rfl, Nat.le_of_ble_eq_true rfl⟩ ?_
      refine gg_vret dc_P_put_70 rfl ⟨Nat.le_of_ble_eq_true rfl, Nat.le_of_ble_eq_true rfl⟩ ?_
      refine ⟨rfl, congrArg (Prod.mk τ) ?_⟩
      funext b j
      by_cases e2 : b = q + 2
      · subst e2; simp [pt_set, va_up, up_2, in_F, upd, hn, nI_1, nI_pred]
      · by_cases e1 : b = q + 1
        · subst e1; simp [pt_set, va_up, up_2, in_F, upd, hn, nI_1, nI_pred]
        · by_cases e0 : b = q
          · subst e0; simp [pt_set, va_up, up_2, in_F, upd, hn, nI_1, nI_pred]
          · simp [pt_set, va_up, up_2, in_F, upd, hn, e0, e1, e2]
  · have hk : k < n := by omega
    have hp : ¬ ν (q + 1) k = x := fun e => by rw [hu, ha_s, if_pos e] at hh; exact absurd hh (by decide)
    refine gg_aldn dc_P_put_0 rfl rfl ?_
    refine gg_ildn dc_P_put_1 rfl rfl ?_
    refine gg_okV (sp_P_luK hq hn h10 hu) dc_P_put_2 ml_P_28 ce_P_lastUpTo ⟨Nat.le_of_ble_eq_true rfl, Nat.le_of_ble_eq_true rfl⟩ h0 rfl rfl (Nat.le_of_ble_eq_true rfl) ⟨rfl, rfl⟩ ⟨Nat.le_of_ble_eq_true rfl, Nat.le_of_ble_eq_true rfl⟩ ?_
    refine gg_istn (i := 3) dc_P_put_5 rfl (Nat.le_of_ble_eq_true rfl) ?_
    dsimp only [List.set]
    refine gg_aldn dc_P_put_6 rfl rfl ?_
    refine gg_ildn dc_P_put_7 rfl rfl ?_
    refine gg_ildn dc_P_put_8 rfl rfl ?_
    refine gg_okV (sp_P_isAtN hq (by omega) hp) dc_P_put_9 ml_P_32 ce_P_isAt ⟨Nat.le_of_ble_eq_true rfl, Nat.le_of_ble_eq_true rfl⟩ h0 rfl rfl (Nat.le_of_ble_eq_true rfl) ⟨rfl, rfl⟩ ⟨Nat.le_of_ble_eq_true rfl, Nat.le_of_ble_eq_true rfl⟩ ?_
    refine gg_ifne dc_P_put_12 (fun c_12 => ?_) (fun c_12 => ?_)
    · exact absurd rfl c_12
    · refine gg_iinc (i := 3) dc_P_put_15 rfl (Nat.le_of_ble_eq_true rfl) ?_
      dsimp only [List.set]
      rw [show Int32.ofInt 1 = 1 from by decide]
      rw [nI_1]
      refine gg_aldn dc_P_put_18 rfl rfl ?_
      refine gg_getr dc_P_put_19 lf_P_11 h0 rfl ?_
      refine gg_ildn dc_P_put_22 rfl rfl ?_
      refine gg_aldn dc_P_put_23 rfl rfl ?_
      refine gx_geti dc_P_put_24 lf_P_18 h0 rfl ?_
      rw [hn]
      refine gg_okSv (sp_R_openGap (by first | exact h1 | exact h2) (by omega) (show (k + 1) ≤ n by omega) (by omega)) dc_P_put_27 ml_P_48 ce_R_openGap ⟨Nat.le_of_ble_eq_true rfl, Nat.le_of_ble_eq_true rfl⟩ rfl (Nat.le_of_ble_eq_true rfl) ⟨rfl, rfl⟩ ⟨Nat.le_of_ble_eq_true rfl, Nat.le_of_ble_eq_true rfl⟩ ?_
      refine gg_aldn dc_P_put_30 rfl rfl ?_
      refine gg_getr dc_P_put_31 lf_P_15 h0 rfl ?_
      refine gg_ildn dc_P_put_34 rfl rfl ?_
      refine gg_aldn dc_P_put_35 rfl rfl ?_
      refine gx_geti dc_P_put_36 lf_P_18 h0 rfl ?_
      rw [va_up_ne _ _ (show q ≠ q + 1 by omega), hn]
      refine gg_okSv (sp_R_openGap (by first | exact h1 | exact h2) (by omega) (show (k + 1) ≤ n by omega) (by omega)) dc_P_put_39 ml_P_48 ce_R_openGap ⟨Nat.le_of_ble_eq_true rfl, Nat.le_of_ble_eq_true rfl⟩ rfl (Nat.le_of_ble_eq_true rfl) ⟨rfl, rfl⟩ ⟨Nat.le_of_ble_eq_true rfl, Nat.le_of_ble_eq_true rfl⟩ ?_
      refine gg_aldn dc_P_put_42 rfl rfl ?_
      refine gg_getr dc_P_put_43 lf_P_11 h0 rfl ?_
      refine gg_ildn dc_P_put_46 rfl rfl ?_
      refine gg_ildn dc_P_put_47 rfl rfl ?_
      refine gg_okSv (sp_R_putE h1 (by omega) rfl (by omega)) dc_P_put_48 ml_P_52 ce_R_put ⟨Nat.le_of_ble_eq_true rfl, Nat.le_of_ble_eq_true rfl⟩ rfl (Nat.le_of_ble_eq_true rfl) ⟨rfl, rfl⟩ ⟨Nat.le_of_ble_eq_true rfl, Nat.le_of_ble_eq_true rfl⟩ ?_
      refine gg_aldn dc_P_put_51 rfl rfl ?_
      refine gg_dup dc_P_put_52 rfl ?_
      refine gx_geti dc_P_put_53 lf_P_18 h0 rfl ?_
      refine gg_iconst (v := 1) dc_P_put_56 (by decide) ?_
      refine gg_iadd dc_P_put_57 ?_
      refine gg_puti dc_P_put_58 lp_P_18 h0 rfl ?_
      refine gg_aldn dc_P_put_61 rfl rfl ?_
      refine gg_getr dc_P_put_62 lf_P_15 h0 rfl ?_
      refine gg_ildn dc_P_put_65 rfl rfl ?_
      refine gg_ildn dc_P_put_66 rfl rfl ?_
      refine gg_okSv (sp_R_putE h2 (by omega) rfl (by omega)) dc_P_put_67 ml_P_52 ce_R_put ⟨Nat.le_of_ble_eq_true rfl, Nat.le_of_ble_eq_true rfl⟩ rfl (Nat.le_of_ble_eq_true rfl) ⟨rfl, rfl⟩ ⟨Nat.le_of_ble_eq_true rfl, Nat.le_of_ble_eq_true rfl⟩ ?_
      refine gg_vret dc_P_put_70 rfl ⟨Nat.le_of_ble_eq_true rfl, Nat.le_of_ble_eq_true rfl⟩ ?_
      refine ⟨rfl, congrArg (Prod.mk τ) ?_⟩
      funext b j
      by_cases e2 : b = q + 2
      · subst e2; simp [pt_set, va_up, up_2, in_F, upd, hn, nI_1, nI_pred]
      · by_cases e1 : b = q + 1
        · subst e1; simp [pt_set, va_up, up_2, in_F, upd, hn, nI_1, nI_pred]
        · by_cases e0 : b = q
          · subst e0; simp [pt_set, va_up, up_2, in_F, upd, hn, nI_1, nI_pred]
          · simp [pt_set, va_up, up_2, in_F, upd, hn, e0, e1, e2]
set_option maxRecDepth 100000 in
set_option maxHeartbeats 4000000 in
theorem sp_P_putY {Γ : cx_T} {τ : Nat × (Nat → sh_T)} {ν : Nat → Nat → Int32} {q n : Nat} {x : Int32} (hq : sh_Pt τ.2 q) (hn : ν q 2 = nI n) (h10 : n ≤ 10) {d : Int32} {k : Nat} (hu : ut_N (ν (q + 1)) x n 0 = k + 1) (hp : ν (q + 1) k = x) : mt_P Γ mk_P_put [.ref q, .int x, .int d] (τ, ν) (fun v μ' => v = none ∧ μ' = (τ, up_2 ν (q + 2) k d)) := by
  refine mt_of (L := [some (.ref q), some (.int x), some (.int d), none]) (by decide +kernel) (by simp [Value.category]) (Nat.le_of_ble_eq_true rfl) (lc_3_4 ()) ?_
  obtain ⟨h0, h1, h2⟩ := id hq
  have hle := (ut_le (ν (q + 1)) x n 0).2
  refine gg_aldn dc_P_put_0 rfl rfl ?_
  refine gg_ildn dc_P_put_1 rfl rfl ?_
  refine gg_okV (sp_P_luK hq hn h10 hu) dc_P_put_2 ml_P_28 ce_P_lastUpTo ⟨Nat.le_of_ble_eq_true rfl, Nat.le_of_ble_eq_true rfl⟩ h0 rfl rfl (Nat.le_of_ble_eq_true rfl) ⟨rfl, rfl⟩ ⟨Nat.le_of_ble_eq_true rfl, Nat.le_of_ble_eq_true rfl⟩ ?_
  refine gg_istn (i := 3) dc_P_put_5 rfl (Nat.le_of_ble_eq_true rfl) ?_
  dsimp only [List.set]
  refine gg_aldn dc_P_put_6 rfl rfl ?_
  refine gg_ildn dc_P_put_7 rfl rfl ?_
  refine gg_ildn dc_P_put_8 rfl rfl ?_
  refine gg_okV (sp_P_isAtY hq (by omega) hp) dc_P_put_9 ml_P_32 ce_P_isAt ⟨Nat.le_of_ble_eq_true rfl, Nat.le_of_ble_eq_true rfl⟩ h0 rfl rfl (Nat.le_of_ble_eq_true rfl) ⟨rfl, rfl⟩ ⟨Nat.le_of_ble_eq_true rfl, Nat.le_of_ble_eq_true rfl⟩ ?_
  refine gg_ifne dc_P_put_12 (fun c_12 => ?_) (fun c_12 => ?_)
  · refine gg_aldn dc_P_put_61 rfl rfl ?_
    refine gg_getr dc_P_put_62 lf_P_15 h0 rfl ?_
    refine gg_ildn dc_P_put_65 rfl rfl ?_
    refine gg_ildn dc_P_put_66 rfl rfl ?_
    refine gg_okSv (sp_R_putE h2 (by omega) rfl (by omega)) dc_P_put_67 ml_P_52 ce_R_put ⟨Nat.le_of_ble_eq_true rfl, Nat.le_of_ble_eq_true rfl⟩ rfl (Nat.le_of_ble_eq_true rfl) ⟨rfl, rfl⟩ ⟨Nat.le_of_ble_eq_true rfl, Nat.le_of_ble_eq_true rfl⟩ ?_
    exact gg_vret dc_P_put_70 rfl ⟨Nat.le_of_ble_eq_true rfl, Nat.le_of_ble_eq_true rfl⟩ (⟨rfl, rfl⟩)
  · exact absurd c_12 (by decide)
set_option maxRecDepth 100000 in
set_option maxHeartbeats 4000000 in
theorem sp_P_remove {Γ : cx_T} {τ : Nat × (Nat → sh_T)} {ν : Nat → Nat → Int32} {q n : Nat} {x : Int32} (hq : sh_Pt τ.2 q) (hn : ν q 2 = nI (n + 1)) (h10 : n + 1 ≤ 10) {k : Nat} (hu : ut_N (ν (q + 1)) x (n + 1) 0 = k + 1) (hp : ν (q + 1) k = x) : mt_P Γ mk_P_remove [.ref q, .int x] (τ, ν) (fun v μ' => v = none ∧ μ' = (τ, pt_set ν q (nI n) (cg_I (ν (q + 1)) k n) (cg_I (ν (q + 2)) k n))) := by
  refine mt_of (L := [some (.ref q), some (.int x), none]) (by decide +kernel) (by simp [Value.category]) (Nat.le_of_ble_eq_true rfl) (lc_2_3 ()) ?_
  obtain ⟨h0, h1, h2⟩ := id hq
  have hle := (ut_le (ν (q + 1)) x (n + 1) 0).2
  refine gg_aldn dc_P_remove_0 rfl rfl ?_
  refine gg_ildn dc_P_remove_1 rfl rfl ?_
  refine gg_okV (sp_P_luK hq hn h10 hu) dc_P_remove_2 ml_P_28 ce_P_lastUpTo ⟨Nat.le_of_ble_eq_true rfl, Nat.le_of_ble_eq_true rfl⟩ h0 rfl rfl (Nat.le_of_ble_eq_true rfl) ⟨rfl, rfl⟩ ⟨Nat.le_of_ble_eq_true rfl, Nat.le_of_ble_eq_true rfl⟩ ?_
  refine gg_istn (i := 2) dc_P_remove_5 rfl (Nat.le_of_ble_eq_true rfl) ?_
  dsimp only [List.set]
  refine gg_aldn dc_P_remove_6 rfl rfl ?_
  refine gg_ildn dc_P_remove_7 rfl rfl ?_
  refine gg_ildn dc_P_remove_8 rfl rfl ?_
  refine gg_okV (sp_P_isAtY hq (by omega) hp) dc_P_remove_9 ml_P_32 ce_P_isAt ⟨Nat.le_of_ble_eq_true rfl, Nat.le_of_ble_eq_true rfl⟩ h0 rfl rfl (Nat.le_of_ble_eq_true rfl) ⟨rfl, rfl⟩ ⟨Nat.le_of_ble_eq_true rfl, Nat.le_of_ble_eq_true rfl⟩ ?_
  refine gg_ifeq dc_P_remove_12 (fun c_12 => ?_) (fun c_12 => ?_)
  · exact absurd c_12 (by decide)
  · refine gg_aldn dc_P_remove_15 rfl rfl ?_
    refine gg_getr dc_P_remove_16 lf_P_11 h0 rfl ?_
    refine gg_ildn dc_P_remove_19 rfl rfl ?_
    refine gg_aldn dc_P_remove_20 rfl rfl ?_
    refine gx_geti dc_P_remove_21 lf_P_18 h0 rfl ?_
    rw [hn]
    refine gg_okSv (sp_R_closeGap (by first | exact h1 | exact h2) (by omega) (show k ≤ n by omega) (by omega)) dc_P_remove_24 ml_P_55 ce_R_closeGap ⟨Nat.le_of_ble_eq_true rfl, Nat.le_of_ble_eq_true rfl⟩ rfl (Nat.le_of_ble_eq_true rfl) ⟨rfl, rfl⟩ ⟨Nat.le_of_ble_eq_true rfl, Nat.le_of_ble_eq_true rfl⟩ ?_
    refine gg_aldn dc_P_remove_27 rfl rfl ?_
    refine gg_getr dc_P_remove_28 lf_P_15 h0 rfl ?_
    refine gg_ildn dc_P_remove_31 rfl rfl ?_
    refine gg_aldn dc_P_remove_32 rfl rfl ?_
    refine gx_geti dc_P_remove_33 lf_P_18 h0 rfl ?_
    rw [va_up_ne _ _ (show q ≠ q + 1 by omega), hn]
    refine gg_okSv (sp_R_closeGap (by first | exact h1 | exact h2) (by omega) (show k ≤ n by omega) (by omega)) dc_P_remove_36 ml_P_55 ce_R_closeGap ⟨Nat.le_of_ble_eq_true rfl, Nat.le_of_ble_eq_true rfl⟩ rfl (Nat.le_of_ble_eq_true rfl) ⟨rfl, rfl⟩ ⟨Nat.le_of_ble_eq_true rfl, Nat.le_of_ble_eq_true rfl⟩ ?_
    refine gg_aldn dc_P_remove_39 rfl rfl ?_
    refine gg_dup dc_P_remove_40 rfl ?_
    refine gx_geti dc_P_remove_41 lf_P_18 h0 rfl ?_
    refine gg_iconst (v := 1) dc_P_remove_44 (by decide) ?_
    refine gg_isub dc_P_remove_45 ?_
    refine gg_puti dc_P_remove_46 lp_P_18 h0 rfl ?_
    refine gg_vret dc_P_remove_49 rfl ⟨Nat.le_of_ble_eq_true rfl, Nat.le_of_ble_eq_true rfl⟩ ?_
    refine ⟨rfl, congrArg (Prod.mk τ) ?_⟩
    funext b j
    by_cases e2 : b = q + 2
    · subst e2; simp [pt_set, va_up, up_2, in_F, upd, hn, nI_1, nI_pred]
    · by_cases e1 : b = q + 1
      · subst e1; simp [pt_set, va_up, up_2, in_F, upd, hn, nI_1, nI_pred]
      · by_cases e0 : b = q
        · subst e0; simp [pt_set, va_up, up_2, in_F, upd, hn, nI_1, nI_pred]
        · simp [pt_set, va_up, up_2, in_F, upd, hn, e0, e1, e2]
set_option maxRecDepth 100000 in
set_option maxHeartbeats 4000000 in
theorem sp_P_copyFrom {Γ : cx_T} {τ : Nat × (Nat → sh_T)} {ν : Nat → Nat → Int32} {q p : Nat} (hq : sh_Pt τ.2 q) (hp : sh_Pt τ.2 p) (hd : p + 2 < q ∨ q + 2 < p) : mt_P Γ mk_P_copyFrom [.ref q, .ref p] (τ, ν) (fun v μ' => v = none ∧ μ' = (τ, pt_set ν q (ν p 2) (cp_N (ν (p + 1)) (ν (q + 1)) 10) (cp_N (ν (p + 2)) (ν (q + 2)) 10))) := by
  refine mt_of (L := [some (.ref q), some (.ref p)]) (by decide +kernel) (by simp [Value.category]) (Nat.le_of_ble_eq_true rfl) (lc_2_2 ()) ?_
  obtain ⟨h0, h1, h2⟩ := id hq
  obtain ⟨g0, g1, g2⟩ := id hp
  refine gg_aldn dc_P_copyFrom_0 rfl rfl ?_
  refine gg_getr dc_P_copyFrom_1 lf_P_11 g0 rfl ?_
  refine gg_aldn dc_P_copyFrom_4 rfl rfl ?_
  refine gg_getr dc_P_copyFrom_5 lf_P_11 h0 rfl ?_
  refine gg_okSv (sp_R_copy g1 h1 (by omega)) dc_P_copyFrom_8 ml_P_22 ce_R_copy ⟨Nat.le_of_ble_eq_true rfl, Nat.le_of_ble_eq_true rfl⟩ rfl (Nat.le_of_ble_eq_true rfl) ⟨rfl, rfl⟩ ⟨Nat.le_of_ble_eq_true rfl, Nat.le_of_ble_eq_true rfl⟩ ?_
  refine gg_aldn dc_P_copyFrom_11 rfl rfl ?_
  refine gg_getr dc_P_copyFrom_12 lf_P_15 g0 rfl ?_
  refine gg_aldn dc_P_copyFrom_15 rfl rfl ?_
  refine gg_getr dc_P_copyFrom_16 lf_P_15 h0 rfl ?_
  refine gg_okSv (sp_R_copy g2 h2 (by omega)) dc_P_copyFrom_19 ml_P_22 ce_R_copy ⟨Nat.le_of_ble_eq_true rfl, Nat.le_of_ble_eq_true rfl⟩ rfl (Nat.le_of_ble_eq_true rfl) ⟨rfl, rfl⟩ ⟨Nat.le_of_ble_eq_true rfl, Nat.le_of_ble_eq_true rfl⟩ ?_
  refine gg_aldn dc_P_copyFrom_22 rfl rfl ?_
  refine gg_aldn dc_P_copyFrom_23 rfl rfl ?_
  refine gx_geti dc_P_copyFrom_24 lf_P_18 g0 rfl ?_
  refine gg_puti dc_P_copyFrom_27 lp_P_18 h0 rfl ?_
  refine gg_vret dc_P_copyFrom_30 rfl ⟨Nat.le_of_ble_eq_true rfl, Nat.le_of_ble_eq_true rfl⟩ ?_
  refine ⟨rfl, congrArg (Prod.mk τ) ?_⟩
  funext b j
  by_cases e2 : b = q + 2
  · subst e2; simp [pt_set, va_up, up_2, cp_va, show ¬ p + 2 = q + 1 by omega]
  · by_cases e1 : b = q + 1
    · subst e1; simp [pt_set, va_up, up_2, cp_va]
    · by_cases e0 : b = q
      · subst e0; simp [pt_set, va_up, up_2, cp_va, show ¬ p = b + 2 by omega, show ¬ p = b + 1 by omega]
      · simp [pt_set, va_up, up_2, e0, e1, e2]
set_option maxRecDepth 100000 in
set_option maxHeartbeats 4000000 in
theorem sp_C_copyFrom {Γ : cx_T} {τ : Nat × (Nat → sh_T)} {ν : Nat → Nat → Int32} {q p : Nat} (hq : sh_Cm τ.2 q) (hp : sh_Cm τ.2 p) (hd : p + 2 < q ∨ q + 2 < p) : mt_P Γ mk_C_copyFrom [.ref q, .ref p] (τ, ν) (fun v μ' => v = none ∧ μ' = (τ, pt_set ν q (ν p 2) (cp_N (ν (p + 1)) (ν (q + 1)) 8) (cp_N (ν (p + 2)) (ν (q + 2)) 8))) := by
  refine mt_of (L := [some (.ref q), some (.ref p)]) (by decide +kernel) (by simp [Value.category]) (Nat.le_of_ble_eq_true rfl) (lc_2_2 ()) ?_
  obtain ⟨h0, h1, h2⟩ := id hq
  obtain ⟨g0, g1, g2⟩ := id hp
  refine gg_aldn dc_C_copyFrom_0 rfl rfl ?_
  refine gg_getr dc_C_copyFrom_1 lf_C_9 g0 rfl ?_
  refine gg_aldn dc_C_copyFrom_4 rfl rfl ?_
  refine gg_getr dc_C_copyFrom_5 lf_C_9 h0 rfl ?_
  refine gg_okSv (sp_R_copy g1 h1 (by omega)) dc_C_copyFrom_8 ml_C_20 ce_R_copy ⟨Nat.le_of_ble_eq_true rfl, Nat.le_of_ble_eq_true rfl⟩ rfl (Nat.le_of_ble_eq_true rfl) ⟨rfl, rfl⟩ ⟨Nat.le_of_ble_eq_true rfl, Nat.le_of_ble_eq_true rfl⟩ ?_
  refine gg_aldn dc_C_copyFrom_11 rfl rfl ?_
  refine gg_getr dc_C_copyFrom_12 lf_C_13 g0 rfl ?_
  refine gg_aldn dc_C_copyFrom_15 rfl rfl ?_
  refine gg_getr dc_C_copyFrom_16 lf_C_13 h0 rfl ?_
  refine gg_okSv (sp_R_copy g2 h2 (by omega)) dc_C_copyFrom_19 ml_C_20 ce_R_copy ⟨Nat.le_of_ble_eq_true rfl, Nat.le_of_ble_eq_true rfl⟩ rfl (Nat.le_of_ble_eq_true rfl) ⟨rfl, rfl⟩ ⟨Nat.le_of_ble_eq_true rfl, Nat.le_of_ble_eq_true rfl⟩ ?_
  refine gg_aldn dc_C_copyFrom_22 rfl rfl ?_
  refine gg_aldn dc_C_copyFrom_23 rfl rfl ?_
  refine gx_geti dc_C_copyFrom_24 lf_C_16 g0 rfl ?_
  refine gg_puti dc_C_copyFrom_27 lp_C_16 h0 rfl ?_
  refine gg_vret dc_C_copyFrom_30 rfl ⟨Nat.le_of_ble_eq_true rfl, Nat.le_of_ble_eq_true rfl⟩ ?_
  refine ⟨rfl, congrArg (Prod.mk τ) ?_⟩
  funext b j
  by_cases e2 : b = q + 2
  · subst e2; simp [pt_set, va_up, up_2, cp_va, show ¬ p + 2 = q + 1 by omega]
  · by_cases e1 : b = q + 1
    · subst e1; simp [pt_set, va_up, up_2, cp_va]
    · by_cases e0 : b = q
      · subst e0; simp [pt_set, va_up, up_2, cp_va, show ¬ p = b + 2 by omega, show ¬ p = b + 1 by omega]
      · simp [pt_set, va_up, up_2, e0, e1, e2]
def vb_I (u n : Nat) (P V : Nat → Int32) (x : Int32) : Int32 := match u with
  | 0 => if n = 0 then 0 else V 0
  | k + 1 => if n ≤ k + 1 then V k else if P (k + 1) - P k ≤ 0 then V k else V k + fd_I ((V (k + 1) - V k) * (x - P k)) (P (k + 1) - P k)
theorem vb_0 {n : Nat} {P V : Nat → Int32} {x : Int32} : vb_I 0 n P V x = if n = 0 then 0 else V 0 := rfl
theorem vb_s {k n : Nat} {P V : Nat → Int32} {x : Int32} : vb_I (k + 1) n P V x = if n ≤ k + 1 then V k else if P (k + 1) - P k ≤ 0 then V k else V k + fd_I ((V (k + 1) - V k) * (x - P k)) (P (k + 1) - P k) := rfl
set_option maxRecDepth 100000 in
set_option maxHeartbeats 4000000 in
theorem sp_P_valueBetween {Γ : cx_T} {τ : Nat × (Nat → sh_T)} {ν : Nat → Nat → Int32} {q n : Nat} {x : Int32} (hq : sh_Pt τ.2 q) (hn : ν q 2 = nI n) (h10 : n ≤ 10) : mt_P Γ mk_P_valueBetween [.ref q, .int x] (τ, ν) (fun v μ' => v = some (.int (vb_I (ut_N (ν (q + 1)) x n 0) n (ν (q + 1)) (ν (q + 2)) x)) ∧ μ' = (τ, ν)) := by
  refine mt_of (L := [some (.ref q), some (.int x), none, none, none, none, none]) (by decide +kernel) (by simp [Value.category]) (Nat.le_of_ble_eq_true rfl) (lc_2_7 ()) ?_
  obtain ⟨h0, h1, h2⟩ := id hq
  have hle := (ut_le (ν (q + 1)) x n 0).2
  rcases hu : ut_N (ν (q + 1)) x n 0 with _ | k
  · refine gg_aldn dc_P_valueBetween_0 rfl rfl ?_
    refine gg_ildn dc_P_valueBetween_1 rfl rfl ?_
    refine gg_okV (sp_P_lu0 hq hn h10 hu) dc_P_valueBetween_2 ml_P_28 ce_P_lastUpTo ⟨Nat.le_of_ble_eq_true rfl, Nat.le_of_ble_eq_true rfl⟩ h0 rfl rfl (Nat.le_of_ble_eq_true rfl) ⟨rfl, rfl⟩ ⟨Nat.le_of_ble_eq_true rfl, Nat.le_of_ble_eq_true rfl⟩ ?_
    refine gg_istn (i := 2) dc_P_valueBetween_5 rfl (Nat.le_of_ble_eq_true rfl) ?_
    dsimp only [List.set]
    refine gg_ildn dc_P_valueBetween_6 rfl rfl ?_
    refine gg_ifge dc_P_valueBetween_7 (fun c_7 => ?_) (fun c_7 => ?_)
    · exact absurd c_7 (by decide)
    · refine gg_aldn dc_P_valueBetween_10 rfl rfl ?_
      refine gx_geti dc_P_valueBetween_11 lf_P_18 h0 rfl ?_
      rw [hn]
      refine gg_ifle dc_P_valueBetween_14 (fun c_14 => ?_) (fun c_14 => ?_)
      · refine gg_iconst (v := 0) dc_P_valueBetween_28 (by decide) ?_
        exact gg_iret dc_P_valueBetween_29 rfl ⟨Nat.le_of_ble_eq_true rfl, Nat.le_of_ble_eq_true rfl⟩ (⟨by rw [vb_0, if_pos (Classical.not_not.mp fun q => absurd c_14 (nI_nle (by omega) (by omega)))], rfl⟩)
      · refine gg_aldn dc_P_valueBetween_17 rfl rfl ?_
        refine gg_getr dc_P_valueBetween_18 lf_P_15 h0 rfl ?_
        refine gg_iconst (v := 0) dc_P_valueBetween_21 (by decide) ?_
        refine gg_okS (sp_R_atE h2 (by omega) rfl (show 0 < 10 by omega)) dc_P_valueBetween_22 ml_P_36 ce_R_at ⟨Nat.le_of_ble_eq_true rfl, Nat.le_of_ble_eq_true rfl⟩ rfl (Nat.le_of_ble_eq_true rfl) ⟨rfl, rfl⟩ ⟨Nat.le_of_ble_eq_true rfl, Nat.le_of_ble_eq_true rfl⟩ ?_
        refine gg_goto dc_P_valueBetween_25 ?_
        exact gg_iret dc_P_valueBetween_29 rfl ⟨Nat.le_of_ble_eq_true rfl, Nat.le_of_ble_eq_true rfl⟩ (⟨by rw [vb_0, if_neg (fun q => c_14 (by rw [q]; decide))], rfl⟩)
  · have hk : k < n := by omega
    refine gg_aldn dc_P_valueBetween_0 rfl rfl ?_
    refine gg_ildn dc_P_valueBetween_1 rfl rfl ?_
    refine gg_okV (sp_P_luK hq hn h10 hu) dc_P_valueBetween_2 ml_P_28 ce_P_lastUpTo ⟨Nat.le_of_ble_eq_true rfl, Nat.le_of_ble_eq_true rfl⟩ h0 rfl rfl (Nat.le_of_ble_eq_true rfl) ⟨rfl, rfl⟩ ⟨Nat.le_of_ble_eq_true rfl, Nat.le_of_ble_eq_true rfl⟩ ?_
    refine gg_istn (i := 2) dc_P_valueBetween_5 rfl (Nat.le_of_ble_eq_true rfl) ?_
    dsimp only [List.set]
    refine gg_ildn dc_P_valueBetween_6 rfl rfl ?_
    refine gg_ifge dc_P_valueBetween_7 (fun c_7 => ?_) (fun c_7 => ?_)
    · refine gg_aldn dc_P_valueBetween_30 rfl rfl ?_
      refine gg_getr dc_P_valueBetween_31 lf_P_15 h0 rfl ?_
      refine gg_ildn dc_P_valueBetween_34 rfl rfl ?_
      refine gg_okS (sp_R_atE h2 (by omega) rfl (by omega)) dc_P_valueBetween_35 ml_P_36 ce_R_at ⟨Nat.le_of_ble_eq_true rfl, Nat.le_of_ble_eq_true rfl⟩ rfl (Nat.le_of_ble_eq_true rfl) ⟨rfl, rfl⟩ ⟨Nat.le_of_ble_eq_true rfl, Nat.le_of_ble_eq_true rfl⟩ ?_
      refine gg_istn (i := 3) dc_P_valueBetween_38 rfl (Nat.le_of_ble_eq_true rfl) ?_
      dsimp only [List.set]
      refine gg_ildn dc_P_valueBetween_39 rfl rfl ?_
      refine gg_iconst (v := 1) dc_P_valueBetween_40 (by decide) ?_
      refine gg_iadd dc_P_valueBetween_41 ?_
      refine gx_top (nI_1 k) ?_
      refine gg_aldn dc_P_valueBetween_42 rfl rfl ?_
      refine gx_geti dc_P_valueBetween_43 lf_P_18 h0 rfl ?_
      rw [hn]
      refine gg_iclt dc_P_valueBetween_46 (fun c_46 => ?_) (fun c_46 => ?_)
      · refine gg_aldn dc_P_valueBetween_51 rfl rfl ?_
        refine gg_getr dc_P_valueBetween_52 lf_P_11 h0 rfl ?_
        refine gg_ildn dc_P_valueBetween_55 rfl rfl ?_
        refine gg_okS (sp_R_atE h1 (by omega) rfl (by omega)) dc_P_valueBetween_56 ml_P_36 ce_R_at ⟨Nat.le_of_ble_eq_true rfl, Nat.le_of_ble_eq_true rfl⟩ rfl (Nat.le_of_ble_eq_true rfl) ⟨rfl, rfl⟩ ⟨Nat.le_of_ble_eq_true rfl, Nat.le_of_ble_eq_true rfl⟩ ?_
        refine gg_ist (i := 4) dc_P_valueBetween_59 (Nat.le_of_ble_eq_true rfl) ?_
        dsimp only [List.set]
        refine gg_aldn dc_P_valueBetween_61 rfl rfl ?_
        refine gg_getr dc_P_valueBetween_62 lf_P_11 h0 rfl ?_
        refine gg_ildn dc_P_valueBetween_65 rfl rfl ?_
        refine gg_iconst (v := 1) dc_P_valueBetween_66 (by decide) ?_
        refine gg_iadd dc_P_valueBetween_67 ?_
        refine gg_okS (sp_R_atE h1 (by omega) (nI_1 k) (by have := Classical.not_not.mp (fun q : ¬ k + 1 < n => absurd c_46 (nI_nlt (by omega) (by omega))); omega)) dc_P_valueBetween_68 ml_P_36 ce_R_at ⟨Nat.le_of_ble_eq_true rfl, Nat.le_of_ble_eq_true rfl⟩ rfl (Nat.le_of_ble_eq_true rfl) ⟨rfl, rfl⟩ ⟨Nat.le_of_ble_eq_true rfl, Nat.le_of_ble_eq_true rfl⟩ ?_
        refine gg_ild dc_P_valueBetween_71 rfl ?_
        refine gg_isub dc_P_valueBetween_73 ?_
        refine gg_ist (i := 5) dc_P_valueBetween_74 (Nat.le_of_ble_eq_true rfl) ?_
        dsimp only [List.set]
        refine gg_ild dc_P_valueBetween_76 rfl ?_
        refine gg_ifgt dc_P_valueBetween_78 (fun c_78 => ?_) (fun c_78 => ?_)
        · refine gg_aldn dc_P_valueBetween_83 rfl rfl ?_
          refine gg_getr dc_P_valueBetween_84 lf_P_15 h0 rfl ?_
          refine gg_ildn dc_P_valueBetween_87 rfl rfl ?_
          refine gg_iconst (v := 1) dc_P_valueBetween_88 (by decide) ?_
          refine gg_iadd dc_P_valueBetween_89 ?_
          refine gg_okS (sp_R_atE h2 (by omega) (nI_1 k) (by have := Classical.not_not.mp (fun q : ¬ k + 1 < n => absurd c_46 (nI_nlt (by omega) (by omega))); omega)) dc_P_valueBetween_90 ml_P_36 ce_R_at ⟨Nat.le_of_ble_eq_true rfl, Nat.le_of_ble_eq_true rfl⟩ rfl (Nat.le_of_ble_eq_true rfl) ⟨rfl, rfl⟩ ⟨Nat.le_of_ble_eq_true rfl, Nat.le_of_ble_eq_true rfl⟩ ?_
          refine gg_ildn dc_P_valueBetween_93 rfl rfl ?_
          refine gg_isub dc_P_valueBetween_94 ?_
          refine gg_ist (i := 6) dc_P_valueBetween_95 (Nat.le_of_ble_eq_true rfl) ?_
          dsimp only [List.set]
          refine gg_ildn dc_P_valueBetween_97 rfl rfl ?_
          refine gg_ild dc_P_valueBetween_98 rfl ?_
          refine gg_ildn dc_P_valueBetween_100 rfl rfl ?_
          refine gg_ild dc_P_valueBetween_101 rfl ?_
          refine gg_isub dc_P_valueBetween_103 ?_
          refine gg_imul dc_P_valueBetween_104 ?_
          refine gg_ild dc_P_valueBetween_105 rfl ?_
          refine gg_okS (sp_J_floorDiv (fun e => absurd c_78 (by rw [e]; decide))) dc_P_valueBetween_107 ml_P_42 ce_J_floorDiv ⟨Nat.le_of_ble_eq_true rfl, Nat.le_of_ble_eq_true rfl⟩ rfl (Nat.le_of_ble_eq_true rfl) ⟨rfl, rfl⟩ ⟨Nat.le_of_ble_eq_true rfl, Nat.le_of_ble_eq_true rfl⟩ ?_
          refine gg_iadd dc_P_valueBetween_110 ?_
          exact gg_iret dc_P_valueBetween_111 rfl ⟨Nat.le_of_ble_eq_true rfl, Nat.le_of_ble_eq_true rfl⟩ (⟨by rw [vb_s, if_neg (fun q => absurd c_46 (nI_nlt q (by omega))), if_neg (Int32.not_le.mpr c_78)], rfl⟩)
        · refine gg_ildn dc_P_valueBetween_81 rfl rfl ?_
          exact gg_iret dc_P_valueBetween_82 rfl ⟨Nat.le_of_ble_eq_true rfl, Nat.le_of_ble_eq_true rfl⟩ (⟨by rw [vb_s, if_neg (fun q => absurd c_46 (nI_nlt q (by omega))), if_pos (Int32.not_lt.mp c_78)], rfl⟩)
      · refine gg_ildn dc_P_valueBetween_49 rfl rfl ?_
        exact gg_iret dc_P_valueBetween_50 rfl ⟨Nat.le_of_ble_eq_true rfl, Nat.le_of_ble_eq_true rfl⟩ (⟨by rw [vb_s, if_pos (Classical.not_not.mp fun q => c_46 (nI_lt (by omega) (by omega)))], rfl⟩)
    · exact absurd (nI_pos' (by omega)) c_7
set_option maxRecDepth 100000 in
set_option maxHeartbeats 4000000 in
theorem sp_C_isFull {Γ : cx_T} {τ : Nat × (Nat → sh_T)} {ν : Nat → Nat → Int32} {q n : Nat} (hq : sh_Cm τ.2 q) (hn : ν q 2 = nI n) (h8 : n ≤ 8) : mt_P Γ mk_C_isFull [.ref q] (τ, ν) (fun v μ' => v = some (.int (if n < 8 then 0 else 1)) ∧ μ' = (τ, ν)) := by
  refine mt_of (L := [some (.ref q)]) (by decide +kernel) (by simp [Value.category]) (Nat.le_of_ble_eq_true rfl) (lc_1_1 ()) ?_
  obtain ⟨h0, h1, h2⟩ := id hq
  refine gg_aldn dc_C_isFull_0 rfl rfl ?_
  refine gx_geti dc_C_isFull_1 lf_C_16 h0 rfl ?_
  refine gg_bipush (v := 8) dc_C_isFull_4 (by decide) ?_
  rw [hn]
  refine gg_iclt dc_C_isFull_6 (fun c_6 => ?_) (fun c_6 => ?_)
  · refine gg_iconst (v := 0) dc_C_isFull_13 (by decide) ?_
    exact gg_zret dc_C_isFull_14 rfl (by first | exact Or.inl rfl | exact Or.inr rfl | assumption) ⟨Nat.le_of_ble_eq_true rfl, Nat.le_of_ble_eq_true rfl⟩ (⟨by rw [if_pos (Classical.not_not.mp fun q => absurd c_6 (nI_nlt (a := n) (b := 8) (by omega) (by omega)))], rfl⟩)
  · refine gg_iconst (v := 1) dc_C_isFull_9 (by decide) ?_
    refine gg_goto dc_C_isFull_10 ?_
    exact gg_zret dc_C_isFull_14 rfl (by first | exact Or.inl rfl | exact Or.inr rfl | assumption) ⟨Nat.le_of_ble_eq_true rfl, Nat.le_of_ble_eq_true rfl⟩ (⟨by rw [if_neg (fun q => c_6 (nI_lt (a := n) (b := 8) (by omega) (by omega)))], rfl⟩)
set_option maxRecDepth 100000 in
set_option maxHeartbeats 4000000 in
theorem sp_C_placeOf {Γ : cx_T} {τ : Nat × (Nat → sh_T)} {ν : Nat → Nat → Int32} {q k : Nat} {i : Int32} (hq : sh_Cm τ.2 q) (hi : i = nI k) (hk : k < 8) : mt_P Γ mk_C_placeOf [.ref q, .int i] (τ, ν) (fun v μ' => v = some (.int (ν (q + 1) k)) ∧ μ' = (τ, ν)) := by
  refine mt_of (L := [some (.ref q), some (.int i)]) (by decide +kernel) (by simp [Value.category]) (Nat.le_of_ble_eq_true rfl) (lc_2_2 ()) ?_
  obtain ⟨h0, h1, h2⟩ := id hq
  refine gg_aldn dc_C_placeOf_0 rfl rfl ?_
  refine gg_getr dc_C_placeOf_1 lf_C_9 h0 rfl ?_
  refine gg_ildn dc_C_placeOf_4 rfl rfl ?_
  refine gg_okS (sp_R_atE h1 (by omega) hi hk) dc_C_placeOf_5 ml_C_26 ce_R_at ⟨Nat.le_of_ble_eq_true rfl, Nat.le_of_ble_eq_true rfl⟩ rfl (Nat.le_of_ble_eq_true rfl) ⟨rfl, rfl⟩ ⟨Nat.le_of_ble_eq_true rfl, Nat.le_of_ble_eq_true rfl⟩ ?_
  exact gg_iret dc_C_placeOf_8 rfl ⟨Nat.le_of_ble_eq_true rfl, Nat.le_of_ble_eq_true rfl⟩ (⟨rfl, rfl⟩)
set_option maxRecDepth 100000 in
set_option maxHeartbeats 4000000 in
theorem sp_C_priorityOf {Γ : cx_T} {τ : Nat × (Nat → sh_T)} {ν : Nat → Nat → Int32} {q k : Nat} {i : Int32} (hq : sh_Cm τ.2 q) (hi : i = nI k) (hk : k < 8) : mt_P Γ mk_C_priorityOf [.ref q, .int i] (τ, ν) (fun v μ' => v = some (.int (ν (q + 2) k)) ∧ μ' = (τ, ν)) := by
  refine mt_of (L := [some (.ref q), some (.int i)]) (by decide +kernel) (by simp [Value.category]) (Nat.le_of_ble_eq_true rfl) (lc_2_2 ()) ?_
  obtain ⟨h0, h1, h2⟩ := id hq
  refine gg_aldn dc_C_priorityOf_0 rfl rfl ?_
  refine gg_getr dc_C_priorityOf_1 lf_C_13 h0 rfl ?_
  refine gg_ildn dc_C_priorityOf_4 rfl rfl ?_
  refine gg_okS (sp_R_atE h2 (by omega) hi hk) dc_C_priorityOf_5 ml_C_26 ce_R_at ⟨Nat.le_of_ble_eq_true rfl, Nat.le_of_ble_eq_true rfl⟩ rfl (Nat.le_of_ble_eq_true rfl) ⟨rfl, rfl⟩ ⟨Nat.le_of_ble_eq_true rfl, Nat.le_of_ble_eq_true rfl⟩ ?_
  exact gg_iret dc_C_priorityOf_8 rfl ⟨Nat.le_of_ble_eq_true rfl, Nat.le_of_ble_eq_true rfl⟩ (⟨rfl, rfl⟩)
set_option maxRecDepth 100000 in
set_option maxHeartbeats 4000000 in
theorem sp_C_takeNext {Γ : cx_T} {τ : Nat × (Nat → sh_T)} {ν : Nat → Nat → Int32} {q n : Nat} (hq : sh_Cm τ.2 q) (hn : ν q 2 = nI (n + 1)) (h8 : n < 8) : mt_P Γ mk_C_takeNext [.ref q] (τ, ν) (fun v μ' => v = some (.int (ν (q + 1) 0)) ∧ μ' = (τ, pt_set ν q (nI n) (cg_I (ν (q + 1)) 0 n) (cg_I (ν (q + 2)) 0 n))) := by
  refine mt_of (L := [some (.ref q), none]) (by decide +kernel) (by simp [Value.category]) (Nat.le_of_ble_eq_true rfl) (lc_1_2 ()) ?_
  obtain ⟨h0, h1, h2⟩ := id hq
  refine gg_aldn dc_C_takeNext_0 rfl rfl ?_
  refine gg_iconst (v := 0) dc_C_takeNext_1 (by decide) ?_
  refine gg_okV (sp_C_placeOf hq nI_of0 (show 0 < 8 by omega)) dc_C_takeNext_2 ml_C_41 ce_C_placeOf ⟨Nat.le_of_ble_eq_true rfl, Nat.le_of_ble_eq_true rfl⟩ h0 rfl rfl (Nat.le_of_ble_eq_true rfl) ⟨rfl, rfl⟩ ⟨Nat.le_of_ble_eq_true rfl, Nat.le_of_ble_eq_true rfl⟩ ?_
  refine gg_istn (i := 1) dc_C_takeNext_5 rfl (Nat.le_of_ble_eq_true rfl) ?_
  dsimp only [List.set]
  refine gg_aldn dc_C_takeNext_6 rfl rfl ?_
  refine gg_getr dc_C_takeNext_7 lf_C_9 h0 rfl ?_
  refine gg_iconst (v := 0) dc_C_takeNext_10 (by decide) ?_
  refine gg_aldn dc_C_takeNext_11 rfl rfl ?_
  refine gx_geti dc_C_takeNext_12 lf_C_16 h0 rfl ?_
  rw [hn, nI_of0]
  refine gg_okSv (sp_R_closeGap (k := 0) (by first | exact h1 | exact h2) (by omega) (by omega) (by omega)) dc_C_takeNext_15 ml_C_44 ce_R_closeGap ⟨Nat.le_of_ble_eq_true rfl, Nat.le_of_ble_eq_true rfl⟩ rfl (Nat.le_of_ble_eq_true rfl) ⟨rfl, rfl⟩ ⟨Nat.le_of_ble_eq_true rfl, Nat.le_of_ble_eq_true rfl⟩ ?_
  refine gg_aldn dc_C_takeNext_18 rfl rfl ?_
  refine gg_getr dc_C_takeNext_19 lf_C_13 h0 rfl ?_
  refine gg_iconst (v := 0) dc_C_takeNext_22 (by decide) ?_
  refine gg_aldn dc_C_takeNext_23 rfl rfl ?_
  refine gx_geti dc_C_takeNext_24 lf_C_16 h0 rfl ?_
  rw [va_up_ne _ _ (show q ≠ q + 1 by omega), hn, nI_of0]
  refine gg_okSv (sp_R_closeGap (k := 0) (by first | exact h1 | exact h2) (by omega) (by omega) (by omega)) dc_C_takeNext_27 ml_C_44 ce_R_closeGap ⟨Nat.le_of_ble_eq_true rfl, Nat.le_of_ble_eq_true rfl⟩ rfl (Nat.le_of_ble_eq_true rfl) ⟨rfl, rfl⟩ ⟨Nat.le_of_ble_eq_true rfl, Nat.le_of_ble_eq_true rfl⟩ ?_
  refine gg_aldn dc_C_takeNext_30 rfl rfl ?_
  refine gg_dup dc_C_takeNext_31 rfl ?_
  refine gx_geti dc_C_takeNext_32 lf_C_16 h0 rfl ?_
  refine gg_iconst (v := 1) dc_C_takeNext_35 (by decide) ?_
  refine gg_isub dc_C_takeNext_36 ?_
  refine gg_puti dc_C_takeNext_37 lp_C_16 h0 rfl ?_
  refine gg_ildn dc_C_takeNext_40 rfl rfl ?_
  refine gg_iret dc_C_takeNext_41 rfl ⟨Nat.le_of_ble_eq_true rfl, Nat.le_of_ble_eq_true rfl⟩ ?_
  refine ⟨rfl, congrArg (Prod.mk τ) ?_⟩
  funext b j
  by_cases e2 : b = q + 2
  · subst e2; simp [pt_set, va_up, up_2, in_F, upd, hn, nI_1, nI_pred]
  · by_cases e1 : b = q + 1
    · subst e1; simp [pt_set, va_up, up_2, in_F, upd, hn, nI_1, nI_pred]
    · by_cases e0 : b = q
      · subst e0; simp [pt_set, va_up, up_2, in_F, upd, hn, nI_1, nI_pred]
      · simp [pt_set, va_up, up_2, in_F, upd, hn, e0, e1, e2]
set_option maxRecDepth 100000 in
set_option maxHeartbeats 4000000 in
theorem sp_C_insert {Γ : cx_T} {τ : Nat × (Nat → sh_T)} {ν : Nat → Nat → Int32} {q n : Nat} (hq : sh_Cm τ.2 q) (hn : ν q 2 = nI n) (h8 : n < 8) {x y : Int32} : mt_P Γ mk_C_insert [.ref q, .int x, .int y] (τ, ν) (fun v μ' => v = none ∧ μ' = (τ, pt_set ν q (nI (n + 1)) (in_F (ν (q + 1)) (pr_N (ν (q + 2)) y n 0) n x) (in_F (ν (q + 2)) (pr_N (ν (q + 2)) y n 0) n y))) := by
  refine mt_of (L := [some (.ref q), some (.int x), some (.int y), none]) (by decide +kernel) (by simp [Value.category]) (Nat.le_of_ble_eq_true rfl) (lc_3_4 ()) ?_
  obtain ⟨h0, h1, h2⟩ := id hq
  obtain ⟨u, hu0⟩ : ∃ u, u = pr_N (ν (q + 2)) y n 0 := ⟨_, rfl⟩
  have hle := (pr_le (ν (q + 2)) y n 0).2
  rw [← hu0] at hle ⊢
  have tail : gg_P Γ mk_C_insert (fun v μ' => v = none ∧ μ' = (τ, pt_set ν q (nI (n + 1)) (in_F (ν (q + 1)) (u) n x) (in_F (ν (q + 2)) (u) n y))) 0 0 25 [some (.ref q), some (.int x), some (.int y), some (.int (nI u))] [] (τ, ν) := by
    refine gg_aldn dc_C_insert_25 rfl rfl ?_
    refine gg_getr dc_C_insert_26 lf_C_9 h0 rfl ?_
    refine gg_ildn dc_C_insert_29 rfl rfl ?_
    refine gg_aldn dc_C_insert_30 rfl rfl ?_
    refine gx_geti dc_C_insert_31 lf_C_16 h0 rfl ?_
    rw [hn]
    refine gg_okSv (sp_R_openGap (by first | exact h1 | exact h2) (by omega) (show u ≤ n by omega) (by omega)) dc_C_insert_34 ml_C_34 ce_R_openGap ⟨Nat.le_of_ble_eq_true rfl, Nat.le_of_ble_eq_true rfl⟩ rfl (Nat.le_of_ble_eq_true rfl) ⟨rfl, rfl⟩ ⟨Nat.le_of_ble_eq_true rfl, Nat.le_of_ble_eq_true rfl⟩ ?_
    refine gg_aldn dc_C_insert_37 rfl rfl ?_
    refine gg_getr dc_C_insert_38 lf_C_13 h0 rfl ?_
    refine gg_ildn dc_C_insert_41 rfl rfl ?_
    refine gg_aldn dc_C_insert_42 rfl rfl ?_
    refine gx_geti dc_C_insert_43 lf_C_16 h0 rfl ?_
    rw [va_up_ne _ _ (show q ≠ q + 1 by omega), hn]
    refine gg_okSv (sp_R_openGap (by first | exact h1 | exact h2) (by omega) (show u ≤ n by omega) (by omega)) dc_C_insert_46 ml_C_34 ce_R_openGap ⟨Nat.le_of_ble_eq_true rfl, Nat.le_of_ble_eq_true rfl⟩ rfl (Nat.le_of_ble_eq_true rfl) ⟨rfl, rfl⟩ ⟨Nat.le_of_ble_eq_true rfl, Nat.le_of_ble_eq_true rfl⟩ ?_
    refine gg_aldn dc_C_insert_49 rfl rfl ?_
    refine gg_getr dc_C_insert_50 lf_C_9 h0 rfl ?_
    refine gg_ildn dc_C_insert_53 rfl rfl ?_
    refine gg_ildn dc_C_insert_54 rfl rfl ?_
    refine gg_okSv (sp_R_putE h1 (by omega) rfl (by omega)) dc_C_insert_55 ml_C_38 ce_R_put ⟨Nat.le_of_ble_eq_true rfl, Nat.le_of_ble_eq_true rfl⟩ rfl (Nat.le_of_ble_eq_true rfl) ⟨rfl, rfl⟩ ⟨Nat.le_of_ble_eq_true rfl, Nat.le_of_ble_eq_true rfl⟩ ?_
    refine gg_aldn dc_C_insert_58 rfl rfl ?_
    refine gg_getr dc_C_insert_59 lf_C_13 h0 rfl ?_
    refine gg_ildn dc_C_insert_62 rfl rfl ?_
    refine gg_ildn dc_C_insert_63 rfl rfl ?_
    refine gg_okSv (sp_R_putE h2 (by omega) rfl (by omega)) dc_C_insert_64 ml_C_38 ce_R_put ⟨Nat.le_of_ble_eq_true rfl, Nat.le_of_ble_eq_true rfl⟩ rfl (Nat.le_of_ble_eq_true rfl) ⟨rfl, rfl⟩ ⟨Nat.le_of_ble_eq_true rfl, Nat.le_of_ble_eq_true rfl⟩ ?_
    refine gg_aldn dc_C_insert_67 rfl rfl ?_
    refine gg_dup dc_C_insert_68 rfl ?_
    refine gx_geti dc_C_insert_69 lf_C_16 h0 rfl ?_
    refine gg_iconst (v := 1) dc_C_insert_72 (by decide) ?_
    refine gg_iadd dc_C_insert_73 ?_
    refine gg_puti dc_C_insert_74 lp_C_16 h0 rfl ?_
    refine gg_vret dc_C_insert_77 rfl ⟨Nat.le_of_ble_eq_true rfl, Nat.le_of_ble_eq_true rfl⟩ ?_
    refine ⟨rfl, congrArg (Prod.mk τ) ?_⟩
    funext b j
    by_cases e2 : b = q + 2
    · subst e2; simp [pt_set, va_up, up_2, in_F, upd, hn, nI_1, nI_pred]
    · by_cases e1 : b = q + 1
      · subst e1; simp [pt_set, va_up, up_2, in_F, upd, hn, nI_1, nI_pred]
      · by_cases e0 : b = q
        · subst e0; simp [pt_set, va_up, up_2, in_F, upd, hn, nI_1, nI_pred]
        · simp [pt_set, va_up, up_2, in_F, upd, hn, e0, e1, e2]
  have loop : ∀ (d i : Nat), i + d = n → pr_N (ν (q + 2)) y d i = u → gg_P Γ mk_C_insert (fun v μ' => v = none ∧ μ' = (τ, pt_set ν q (nI (n + 1)) (in_F (ν (q + 1)) (u) n x) (in_F (ν (q + 2)) (u) n y))) 0 0 2 [some (.ref q), some (.int x), some (.int y), some (.int (nI i))] [] (τ, ν) := by
    intro d
    induction d with
    | zero =>
      intro i hi hu
      have hi : i = n := by omega
      subst hi
      refine gg_ildn dc_C_insert_2 rfl rfl ?_
      refine gg_aldn dc_C_insert_3 rfl rfl ?_
      refine gx_geti dc_C_insert_4 lf_C_16 h0 rfl ?_
      rw [hn]
      refine gg_icge dc_C_insert_7 (fun c_7 => ?_) (fun c_7 => ?_)
      · have hu9 : u = i := by rw [← hu]; rfl
        exact gg_e tail (by rw [hu9]) rfl rfl
      · exact absurd (Int32.le_refl _) c_7
    | succ d ih =>
      intro i hi hu
      refine gg_ildn dc_C_insert_2 rfl rfl ?_
      refine gg_aldn dc_C_insert_3 rfl rfl ?_
      refine gx_geti dc_C_insert_4 lf_C_16 h0 rfl ?_
      rw [hn]
      refine gg_icge dc_C_insert_7 (fun c_7 => ?_) (fun c_7 => ?_)
      · exact absurd c_7 (nI_ge (by omega) (by omega))
      · refine gg_aldn dc_C_insert_10 rfl rfl ?_
        refine gg_ildn dc_C_insert_11 rfl rfl ?_
        refine gg_okV (sp_C_priorityOf hq rfl (by omega)) dc_C_insert_12 ml_C_30 ce_C_priorityOf ⟨Nat.le_of_ble_eq_true rfl, Nat.le_of_ble_eq_true rfl⟩ h0 rfl rfl (Nat.le_of_ble_eq_true rfl) ⟨rfl, rfl⟩ ⟨Nat.le_of_ble_eq_true rfl, Nat.le_of_ble_eq_true rfl⟩ ?_
        refine gg_ildn dc_C_insert_15 rfl rfl ?_
        refine gg_iclt dc_C_insert_16 (fun c_16 => ?_) (fun c_16 => ?_)
        · have hu9 : u = i := by rw [← hu, pr_e c_16]
          exact gg_e tail (by rw [hu9]) rfl rfl
        · refine gg_iinc (i := 3) dc_C_insert_19 rfl (Nat.le_of_ble_eq_true rfl) ?_
          dsimp only [List.set]
          rw [show Int32.ofInt 1 = 1 from by decide]
          refine gg_goto dc_C_insert_22 ?_
          refine gg_e (ih (i + 1) (by omega) (by rw [← hu, pr_s c_16])) (by rw [nI_1]) rfl rfl
  refine gg_iconst (v := 0) dc_C_insert_0 (by decide) ?_
  refine gg_istn (i := 3) dc_C_insert_1 rfl (Nat.le_of_ble_eq_true rfl) ?_
  dsimp only [List.set]
  exact loop n 0 (by omega) hu0.symm
end
